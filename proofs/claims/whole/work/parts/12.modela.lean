theorem d_M_init_0 : decode b_M_init 0 = .ok (.aload_n 0, 1) := by decide +kernel
theorem d_M_init_1 : decode b_M_init 1 = .ok (.invokespecial 1, 3) := by decide +kernel
theorem d_M_init_4 : decode b_M_init 4 = .ok (.aload_n 0, 1) := by decide +kernel
theorem d_M_init_5 : decode b_M_init 5 = .ok (.bipush 120, 2) := by decide +kernel
theorem d_M_init_7 : decode b_M_init 7 = .ok (.newarray .int, 2) := by decide +kernel
theorem d_M_init_9 : decode b_M_init 9 = .ok (.putfield 7, 3) := by decide +kernel
theorem d_M_init_12 : decode b_M_init 12 = .ok (.aload_n 0, 1) := by decide +kernel
theorem d_M_init_13 : decode b_M_init 13 = .ok (.bipush 121, 2) := by decide +kernel
theorem d_M_init_15 : decode b_M_init 15 = .ok (.newarray .boolean, 2) := by decide +kernel
theorem d_M_init_17 : decode b_M_init 17 = .ok (.putfield 13, 3) := by decide +kernel
theorem d_M_init_20 : decode b_M_init 20 = .ok (.aload_n 0, 1) := by decide +kernel
theorem d_M_init_21 : decode b_M_init 21 = .ok (.bipush 121, 2) := by decide +kernel
theorem d_M_init_23 : decode b_M_init 23 = .ok (.newarray .boolean, 2) := by decide +kernel
theorem d_M_init_25 : decode b_M_init 25 = .ok (.putfield 17, 3) := by decide +kernel
theorem d_M_init_28 : decode b_M_init 28 = .ok (.aload_n 0, 1) := by decide +kernel
theorem d_M_init_29 : decode b_M_init 29 = .ok (.iconst 5, 1) := by decide +kernel
theorem d_M_init_30 : decode b_M_init 30 = .ok (.newarray .int, 2) := by decide +kernel
theorem d_M_init_32 : decode b_M_init 32 = .ok (.putfield 20, 3) := by decide +kernel
theorem d_M_init_35 : decode b_M_init 35 = .ok (.aload_n 0, 1) := by decide +kernel
theorem d_M_init_36 : decode b_M_init 36 = .ok (.iconst 5, 1) := by decide +kernel
theorem d_M_init_37 : decode b_M_init 37 = .ok (.newarray .int, 2) := by decide +kernel
theorem d_M_init_39 : decode b_M_init 39 = .ok (.putfield 23, 3) := by decide +kernel
theorem d_M_init_42 : decode b_M_init 42 = .ok (.aload_n 0, 1) := by decide +kernel
theorem d_M_init_43 : decode b_M_init 43 = .ok (.iconst 5, 1) := by decide +kernel
theorem d_M_init_44 : decode b_M_init 44 = .ok (.newarray .int, 2) := by decide +kernel
theorem d_M_init_46 : decode b_M_init 46 = .ok (.putfield 26, 3) := by decide +kernel
theorem d_M_init_49 : decode b_M_init 49 = .ok (.aload_n 0, 1) := by decide +kernel
theorem d_M_init_50 : decode b_M_init 50 = .ok (.iconst 5, 1) := by decide +kernel
theorem d_M_init_51 : decode b_M_init 51 = .ok (.newarray .int, 2) := by decide +kernel
theorem d_M_init_53 : decode b_M_init 53 = .ok (.putfield 29, 3) := by decide +kernel
theorem d_M_init_56 : decode b_M_init 56 = .ok (.aload_n 0, 1) := by decide +kernel
theorem d_M_init_57 : decode b_M_init 57 = .ok (.iconst 5, 1) := by decide +kernel
theorem d_M_init_58 : decode b_M_init 58 = .ok (.newarray .boolean, 2) := by decide +kernel
theorem d_M_init_60 : decode b_M_init 60 = .ok (.putfield 32, 3) := by decide +kernel
theorem d_M_init_63 : decode b_M_init 63 = .ok (.aload_n 0, 1) := by decide +kernel
theorem d_M_init_64 : decode b_M_init 64 = .ok (.iconst 5, 1) := by decide +kernel
theorem d_M_init_65 : decode b_M_init 65 = .ok (.newarray .boolean, 2) := by decide +kernel
theorem d_M_init_67 : decode b_M_init 67 = .ok (.putfield 35, 3) := by decide +kernel
theorem d_M_init_70 : decode b_M_init 70 = .ok (.aload_n 0, 1) := by decide +kernel
theorem d_M_init_71 : decode b_M_init 71 = .ok (.sipush 320, 3) := by decide +kernel
theorem d_M_init_74 : decode b_M_init 74 = .ok (.newarray .int, 2) := by decide +kernel
theorem d_M_init_76 : decode b_M_init 76 = .ok (.putfield 38, 3) := by decide +kernel
theorem d_M_init_79 : decode b_M_init 79 = .ok (.aload_n 0, 1) := by decide +kernel
theorem d_M_init_80 : decode b_M_init 80 = .ok (.iconst 5, 1) := by decide +kernel
theorem d_M_init_81 : decode b_M_init 81 = .ok (.newarray .int, 2) := by decide +kernel
theorem d_M_init_83 : decode b_M_init 83 = .ok (.putfield 41, 3) := by decide +kernel
theorem d_M_init_86 : decode b_M_init 86 = .ok (.aload_n 0, 1) := by decide +kernel
theorem d_M_init_87 : decode b_M_init 87 = .ok (.iconst 5, 1) := by decide +kernel
theorem d_M_init_88 : decode b_M_init 88 = .ok (.newarray .int, 2) := by decide +kernel
theorem d_M_init_90 : decode b_M_init 90 = .ok (.putfield 44, 3) := by decide +kernel
theorem d_M_init_93 : decode b_M_init 93 = .ok (.aload_n 0, 1) := by decide +kernel
theorem d_M_init_94 : decode b_M_init 94 = .ok (.iconst 5, 1) := by decide +kernel
theorem d_M_init_95 : decode b_M_init 95 = .ok (.newarray .boolean, 2) := by decide +kernel
theorem d_M_init_97 : decode b_M_init 97 = .ok (.putfield 47, 3) := by decide +kernel
theorem d_M_init_100 : decode b_M_init 100 = .ok (.aload_n 0, 1) := by decide +kernel
theorem d_M_init_101 : decode b_M_init 101 = .ok (.iconst 5, 1) := by decide +kernel
theorem d_M_init_102 : decode b_M_init 102 = .ok (.newarray .int, 2) := by decide +kernel
theorem d_M_init_104 : decode b_M_init 104 = .ok (.putfield 50, 3) := by decide +kernel
theorem d_M_init_107 : decode b_M_init 107 = .ok (.aload_n 0, 1) := by decide +kernel
theorem d_M_init_108 : decode b_M_init 108 = .ok (.iconst 5, 1) := by decide +kernel
theorem d_M_init_109 : decode b_M_init 109 = .ok (.newarray .int, 2) := by decide +kernel
theorem d_M_init_111 : decode b_M_init 111 = .ok (.putfield 53, 3) := by decide +kernel
theorem d_M_init_114 : decode b_M_init 114 = .ok (.aload_n 0, 1) := by decide +kernel
theorem d_M_init_115 : decode b_M_init 115 = .ok (.bipush 120, 2) := by decide +kernel
theorem d_M_init_117 : decode b_M_init 117 = .ok (.newarray .int, 2) := by decide +kernel
theorem d_M_init_119 : decode b_M_init 119 = .ok (.putfield 56, 3) := by decide +kernel
theorem d_M_init_122 : decode b_M_init 122 = .ok (.aload_n 0, 1) := by decide +kernel
theorem d_M_init_123 : decode b_M_init 123 = .ok (.sipush 600, 3) := by decide +kernel
theorem d_M_init_126 : decode b_M_init 126 = .ok (.newarray .int, 2) := by decide +kernel
theorem d_M_init_128 : decode b_M_init 128 = .ok (.putfield 59, 3) := by decide +kernel
theorem d_M_init_131 : decode b_M_init 131 = .ok (.aload_n 0, 1) := by decide +kernel
theorem d_M_init_132 : decode b_M_init 132 = .ok (.bipush 120, 2) := by decide +kernel
theorem d_M_init_134 : decode b_M_init 134 = .ok (.newarray .int, 2) := by decide +kernel
theorem d_M_init_136 : decode b_M_init 136 = .ok (.putfield 62, 3) := by decide +kernel
theorem d_M_init_139 : decode b_M_init 139 = .ok (.aload_n 0, 1) := by decide +kernel
theorem d_M_init_140 : decode b_M_init 140 = .ok (.getfield 13, 3) := by decide +kernel
theorem d_M_init_143 : decode b_M_init 143 = .ok (.iconst 0, 1) := by decide +kernel
theorem d_M_init_144 : decode b_M_init 144 = .ok (.iconst 1, 1) := by decide +kernel
theorem d_M_init_145 : decode b_M_init 145 = .ok (.bastore, 1) := by decide +kernel
theorem d_M_init_146 : decode b_M_init 146 = .ok (.return_, 1) := by decide +kernel
theorem d_M_thrown_0 : decode b_M_thrown 0 = .ok (.aload_n 0, 1) := by decide +kernel
theorem d_M_thrown_1 : decode b_M_thrown 1 = .ok (.getfield 65, 3) := by decide +kernel
theorem d_M_thrown_4 : decode b_M_thrown 4 = .ok (.ireturn, 1) := by decide +kernel
theorem d_M_feed_0 : decode b_M_feed 0 = .ok (.aload_n 0, 1) := by decide +kernel
theorem d_M_feed_1 : decode b_M_feed 1 = .ok (.iload_n 2, 1) := by decide +kernel
theorem d_M_feed_2 : decode b_M_feed 2 = .ok (.iconst 1, 1) := by decide +kernel
theorem d_M_feed_3 : decode b_M_feed 3 = .ok (.if_icmp .lt 8, 3) := by decide +kernel
theorem d_M_feed_6 : decode b_M_feed 6 = .ok (.iload_n 2, 1) := by decide +kernel
theorem d_M_feed_7 : decode b_M_feed 7 = .ok (.iconst 4, 1) := by decide +kernel
theorem d_M_feed_8 : decode b_M_feed 8 = .ok (.if_icmp .le 7, 3) := by decide +kernel
theorem d_M_feed_11 : decode b_M_feed 11 = .ok (.iconst 1, 1) := by decide +kernel
theorem d_M_feed_12 : decode b_M_feed 12 = .ok (.goto 19, 3) := by decide +kernel
theorem d_M_feed_15 : decode b_M_feed 15 = .ok (.aload_n 0, 1) := by decide +kernel
theorem d_M_feed_16 : decode b_M_feed 16 = .ok (.getfield 69, 3) := by decide +kernel
theorem d_M_feed_19 : decode b_M_feed 19 = .ok (.iload_n 2, 1) := by decide +kernel
theorem d_M_feed_20 : decode b_M_feed 20 = .ok (.iadd, 1) := by decide +kernel
theorem d_M_feed_21 : decode b_M_feed 21 = .ok (.bipush 120, 2) := by decide +kernel
theorem d_M_feed_23 : decode b_M_feed 23 = .ok (.if_icmp .le 7, 3) := by decide +kernel
theorem d_M_feed_26 : decode b_M_feed 26 = .ok (.iconst 2, 1) := by decide +kernel
theorem d_M_feed_27 : decode b_M_feed 27 = .ok (.goto 4, 3) := by decide +kernel
theorem d_M_feed_30 : decode b_M_feed 30 = .ok (.iconst 0, 1) := by decide +kernel
theorem d_M_feed_31 : decode b_M_feed 31 = .ok (.putfield 65, 3) := by decide +kernel
theorem d_M_feed_34 : decode b_M_feed 34 = .ok (.aload_n 0, 1) := by decide +kernel
theorem d_M_feed_35 : decode b_M_feed 35 = .ok (.getfield 65, 3) := by decide +kernel
theorem d_M_feed_38 : decode b_M_feed 38 = .ok (.ifCond .le 5, 3) := by decide +kernel
theorem d_M_feed_41 : decode b_M_feed 41 = .ok (.iconst 0, 1) := by decide +kernel
theorem d_M_feed_42 : decode b_M_feed 42 = .ok (.ireturn, 1) := by decide +kernel
theorem d_M_feed_43 : decode b_M_feed 43 = .ok (.iload_n 2, 1) := by decide +kernel
theorem d_M_feed_44 : decode b_M_feed 44 = .ok (.iconst 1, 1) := by decide +kernel
theorem d_M_feed_45 : decode b_M_feed 45 = .ok (.isub, 1) := by decide +kernel
theorem d_M_feed_46 : decode b_M_feed 46 = .ok (.istore_n 3, 1) := by decide +kernel
theorem d_M_feed_47 : decode b_M_feed 47 = .ok (.iload_n 3, 1) := by decide +kernel
theorem d_M_feed_48 : decode b_M_feed 48 = .ok (.ifCond .lt 38, 3) := by decide +kernel
theorem d_M_feed_51 : decode b_M_feed 51 = .ok (.aload_n 0, 1) := by decide +kernel
theorem d_M_feed_52 : decode b_M_feed 52 = .ok (.getfield 7, 3) := by decide +kernel
theorem d_M_feed_55 : decode b_M_feed 55 = .ok (.aload_n 0, 1) := by decide +kernel
theorem d_M_feed_56 : decode b_M_feed 56 = .ok (.getfield 69, 3) := by decide +kernel
theorem d_M_feed_59 : decode b_M_feed 59 = .ok (.iload_n 1, 1) := by decide +kernel
theorem d_M_feed_60 : decode b_M_feed 60 = .ok (.bipush 8, 2) := by decide +kernel
theorem d_M_feed_62 : decode b_M_feed 62 = .ok (.iload_n 3, 1) := by decide +kernel
theorem d_M_feed_63 : decode b_M_feed 63 = .ok (.imul, 1) := by decide +kernel
theorem d_M_feed_64 : decode b_M_feed 64 = .ok (.ishr, 1) := by decide +kernel
theorem d_M_feed_65 : decode b_M_feed 65 = .ok (.sipush 255, 3) := by decide +kernel
theorem d_M_feed_68 : decode b_M_feed 68 = .ok (.iand, 1) := by decide +kernel
theorem d_M_feed_69 : decode b_M_feed 69 = .ok (.iastore, 1) := by decide +kernel
theorem d_M_feed_70 : decode b_M_feed 70 = .ok (.aload_n 0, 1) := by decide +kernel
theorem d_M_feed_71 : decode b_M_feed 71 = .ok (.dup, 1) := by decide +kernel
theorem d_M_feed_72 : decode b_M_feed 72 = .ok (.getfield 69, 3) := by decide +kernel
theorem d_M_feed_75 : decode b_M_feed 75 = .ok (.iconst 1, 1) := by decide +kernel
theorem d_M_feed_76 : decode b_M_feed 76 = .ok (.iadd, 1) := by decide +kernel
theorem d_M_feed_77 : decode b_M_feed 77 = .ok (.putfield 69, 3) := by decide +kernel
theorem d_M_feed_80 : decode b_M_feed 80 = .ok (.iinc 3 (-1), 3) := by decide +kernel
theorem d_M_feed_83 : decode b_M_feed 83 = .ok (.goto (-36), 3) := by decide +kernel
theorem d_M_feed_86 : decode b_M_feed 86 = .ok (.aload_n 0, 1) := by decide +kernel
theorem d_M_feed_87 : decode b_M_feed 87 = .ok (.getfield 69, 3) := by decide +kernel
theorem d_M_feed_90 : decode b_M_feed 90 = .ok (.ireturn, 1) := by decide +kernel
theorem d_M_portion_0 : decode b_M_portion 0 = .ok (.aload_n 0, 1) := by decide +kernel
theorem d_M_portion_1 : decode b_M_portion 1 = .ok (.iconst 0, 1) := by decide +kernel
theorem d_M_portion_2 : decode b_M_portion 2 = .ok (.putfield 65, 3) := by decide +kernel
theorem d_M_portion_5 : decode b_M_portion 5 = .ok (.aload_n 0, 1) := by decide +kernel
theorem d_M_portion_6 : decode b_M_portion 6 = .ok (.getfield 13, 3) := by decide +kernel
theorem d_M_portion_9 : decode b_M_portion 9 = .ok (.aload_n 0, 1) := by decide +kernel
theorem d_M_portion_10 : decode b_M_portion 10 = .ok (.getfield 69, 3) := by decide +kernel
theorem d_M_portion_13 : decode b_M_portion 13 = .ok (.iconst 1, 1) := by decide +kernel
theorem d_M_portion_14 : decode b_M_portion 14 = .ok (.bastore, 1) := by decide +kernel
theorem d_M_portion_15 : decode b_M_portion 15 = .ok (.return_, 1) := by decide +kernel
theorem d_M_breakAt_0 : decode b_M_breakAt 0 = .ok (.aload_n 0, 1) := by decide +kernel
theorem d_M_breakAt_1 : decode b_M_breakAt 1 = .ok (.iconst 0, 1) := by decide +kernel
theorem d_M_breakAt_2 : decode b_M_breakAt 2 = .ok (.putfield 65, 3) := by decide +kernel
theorem d_M_breakAt_5 : decode b_M_breakAt 5 = .ok (.iload_n 1, 1) := by decide +kernel
theorem d_M_breakAt_6 : decode b_M_breakAt 6 = .ok (.iconst (-1), 1) := by decide +kernel
theorem d_M_breakAt_7 : decode b_M_breakAt 7 = .ok (.if_icmp .lt 9, 3) := by decide +kernel
theorem d_M_breakAt_10 : decode b_M_breakAt 10 = .ok (.iload_n 1, 1) := by decide +kernel
theorem d_M_breakAt_11 : decode b_M_breakAt 11 = .ok (.bipush 120, 2) := by decide +kernel
theorem d_M_breakAt_13 : decode b_M_breakAt 13 = .ok (.if_icmp .le 5, 3) := by decide +kernel
theorem d_M_breakAt_16 : decode b_M_breakAt 16 = .ok (.iconst 0, 1) := by decide +kernel
theorem d_M_breakAt_17 : decode b_M_breakAt 17 = .ok (.ireturn, 1) := by decide +kernel
theorem d_M_breakAt_18 : decode b_M_breakAt 18 = .ok (.iload_n 1, 1) := by decide +kernel
theorem d_M_breakAt_19 : decode b_M_breakAt 19 = .ok (.ifCond .lt 12, 3) := by decide +kernel
theorem d_M_breakAt_22 : decode b_M_breakAt 22 = .ok (.aload_n 0, 1) := by decide +kernel
theorem d_M_breakAt_23 : decode b_M_breakAt 23 = .ok (.getfield 17, 3) := by decide +kernel
theorem d_M_breakAt_26 : decode b_M_breakAt 26 = .ok (.iload_n 1, 1) := by decide +kernel
theorem d_M_breakAt_27 : decode b_M_breakAt 27 = .ok (.iconst 1, 1) := by decide +kernel
theorem d_M_breakAt_28 : decode b_M_breakAt 28 = .ok (.bastore, 1) := by decide +kernel
theorem d_M_breakAt_29 : decode b_M_breakAt 29 = .ok (.iconst 1, 1) := by decide +kernel
theorem d_M_breakAt_30 : decode b_M_breakAt 30 = .ok (.ireturn, 1) := by decide +kernel
theorem d_M_breakAt_31 : decode b_M_breakAt 31 = .ok (.iconst 0, 1) := by decide +kernel
theorem d_M_breakAt_32 : decode b_M_breakAt 32 = .ok (.istore_n 2, 1) := by decide +kernel
theorem d_M_breakAt_33 : decode b_M_breakAt 33 = .ok (.iload_n 2, 1) := by decide +kernel
theorem d_M_breakAt_34 : decode b_M_breakAt 34 = .ok (.bipush 120, 2) := by decide +kernel
theorem d_M_breakAt_36 : decode b_M_breakAt 36 = .ok (.if_icmp .gt 16, 3) := by decide +kernel
theorem d_M_breakAt_39 : decode b_M_breakAt 39 = .ok (.aload_n 0, 1) := by decide +kernel
theorem d_M_breakAt_40 : decode b_M_breakAt 40 = .ok (.getfield 17, 3) := by decide +kernel
theorem d_M_breakAt_43 : decode b_M_breakAt 43 = .ok (.iload_n 2, 1) := by decide +kernel
theorem d_M_breakAt_44 : decode b_M_breakAt 44 = .ok (.iconst 0, 1) := by decide +kernel
theorem d_M_breakAt_45 : decode b_M_breakAt 45 = .ok (.bastore, 1) := by decide +kernel
theorem d_M_breakAt_46 : decode b_M_breakAt 46 = .ok (.iinc 2 1, 3) := by decide +kernel
theorem d_M_breakAt_49 : decode b_M_breakAt 49 = .ok (.goto (-16), 3) := by decide +kernel
theorem d_M_breakAt_52 : decode b_M_breakAt 52 = .ok (.iconst 1, 1) := by decide +kernel
theorem d_M_breakAt_53 : decode b_M_breakAt 53 = .ok (.ireturn, 1) := by decide +kernel
theorem d_M_portionLeft_0 : decode b_M_portionLeft 0 = .ok (.aload_n 0, 1) := by decide +kernel
theorem d_M_portionLeft_1 : decode b_M_portionLeft 1 = .ok (.getfield 72, 3) := by decide +kernel
theorem d_M_portionLeft_4 : decode b_M_portionLeft 4 = .ok (.istore_n 1, 1) := by decide +kernel
theorem d_M_portionLeft_5 : decode b_M_portionLeft 5 = .ok (.iload_n 1, 1) := by decide +kernel
theorem d_M_portionLeft_6 : decode b_M_portionLeft 6 = .ok (.aload_n 0, 1) := by decide +kernel
theorem d_M_portionLeft_7 : decode b_M_portionLeft 7 = .ok (.getfield 69, 3) := by decide +kernel
theorem d_M_portionLeft_10 : decode b_M_portionLeft 10 = .ok (.if_icmp .ge 26, 3) := by decide +kernel
theorem d_M_portionLeft_13 : decode b_M_portionLeft 13 = .ok (.iload_n 1, 1) := by decide +kernel
theorem d_M_portionLeft_14 : decode b_M_portionLeft 14 = .ok (.aload_n 0, 1) := by decide +kernel
theorem d_M_portionLeft_15 : decode b_M_portionLeft 15 = .ok (.getfield 72, 3) := by decide +kernel
theorem d_M_portionLeft_18 : decode b_M_portionLeft 18 = .ok (.if_icmp .eq 12, 3) := by decide +kernel
theorem d_M_portionLeft_21 : decode b_M_portionLeft 21 = .ok (.aload_n 0, 1) := by decide +kernel
theorem d_M_portionLeft_22 : decode b_M_portionLeft 22 = .ok (.getfield 13, 3) := by decide +kernel
theorem d_M_portionLeft_25 : decode b_M_portionLeft 25 = .ok (.iload_n 1, 1) := by decide +kernel
theorem d_M_portionLeft_26 : decode b_M_portionLeft 26 = .ok (.baload, 1) := by decide +kernel
theorem d_M_portionLeft_27 : decode b_M_portionLeft 27 = .ok (.ifCond .ne 9, 3) := by decide +kernel
theorem d_M_portionLeft_30 : decode b_M_portionLeft 30 = .ok (.iinc 1 1, 3) := by decide +kernel
theorem d_M_portionLeft_33 : decode b_M_portionLeft 33 = .ok (.goto (-28), 3) := by decide +kernel
theorem d_M_portionLeft_36 : decode b_M_portionLeft 36 = .ok (.iload_n 1, 1) := by decide +kernel
theorem d_M_portionLeft_37 : decode b_M_portionLeft 37 = .ok (.aload_n 0, 1) := by decide +kernel
theorem d_M_portionLeft_38 : decode b_M_portionLeft 38 = .ok (.getfield 72, 3) := by decide +kernel
theorem d_M_portionLeft_41 : decode b_M_portionLeft 41 = .ok (.isub, 1) := by decide +kernel
theorem d_M_portionLeft_42 : decode b_M_portionLeft 42 = .ok (.ireturn, 1) := by decide +kernel
theorem d_M_push_0 : decode b_M_push 0 = .ok (.iload_n 1, 1) := by decide +kernel
theorem d_M_push_1 : decode b_M_push 1 = .ok (.iconst 1, 1) := by decide +kernel
theorem d_M_push_2 : decode b_M_push 2 = .ok (.if_icmp .eq 8, 3) := by decide +kernel
theorem d_M_push_5 : decode b_M_push 5 = .ok (.iload_n 1, 1) := by decide +kernel
theorem d_M_push_6 : decode b_M_push 6 = .ok (.iconst 2, 1) := by decide +kernel
theorem d_M_push_7 : decode b_M_push 7 = .ok (.if_icmp .ne 7, 3) := by decide +kernel
theorem d_M_push_10 : decode b_M_push 10 = .ok (.iconst 1, 1) := by decide +kernel
theorem d_M_push_11 : decode b_M_push 11 = .ok (.goto 4, 3) := by decide +kernel
theorem d_M_push_14 : decode b_M_push 14 = .ok (.iconst 0, 1) := by decide +kernel
theorem d_M_push_15 : decode b_M_push 15 = .ok (.istore_n 3, 1) := by decide +kernel
theorem d_M_push_16 : decode b_M_push 16 = .ok (.iload_n 1, 1) := by decide +kernel
theorem d_M_push_17 : decode b_M_push 17 = .ok (.iconst 1, 1) := by decide +kernel
theorem d_M_push_18 : decode b_M_push 18 = .ok (.if_icmp .ne 8, 3) := by decide +kernel
theorem d_M_push_21 : decode b_M_push 21 = .ok (.bipush 16, 2) := by decide +kernel
theorem d_M_push_23 : decode b_M_push 23 = .ok (.goto 36, 3) := by decide +kernel
theorem d_M_push_26 : decode b_M_push 26 = .ok (.iload_n 1, 1) := by decide +kernel
theorem d_M_push_27 : decode b_M_push 27 = .ok (.iconst 2, 1) := by decide +kernel
theorem d_M_push_28 : decode b_M_push 28 = .ok (.if_icmp .ne 8, 3) := by decide +kernel
theorem d_M_push_31 : decode b_M_push 31 = .ok (.bipush 8, 2) := by decide +kernel
theorem d_M_push_33 : decode b_M_push 33 = .ok (.goto 26, 3) := by decide +kernel
theorem d_M_push_36 : decode b_M_push 36 = .ok (.iload_n 1, 1) := by decide +kernel
theorem d_M_push_37 : decode b_M_push 37 = .ok (.iconst 3, 1) := by decide +kernel
theorem d_M_push_38 : decode b_M_push 38 = .ok (.if_icmp .ne 9, 3) := by decide +kernel
theorem d_M_push_41 : decode b_M_push 41 = .ok (.sipush 200, 3) := by decide +kernel
theorem d_M_push_44 : decode b_M_push 44 = .ok (.goto 15, 3) := by decide +kernel
theorem d_M_push_47 : decode b_M_push 47 = .ok (.iload_n 1, 1) := by decide +kernel
theorem d_M_push_48 : decode b_M_push 48 = .ok (.iconst 4, 1) := by decide +kernel
theorem d_M_push_49 : decode b_M_push 49 = .ok (.if_icmp .ne 9, 3) := by decide +kernel
theorem d_M_push_52 : decode b_M_push 52 = .ok (.sipush 255, 3) := by decide +kernel
theorem d_M_push_55 : decode b_M_push 55 = .ok (.goto 4, 3) := by decide +kernel
theorem d_M_push_58 : decode b_M_push 58 = .ok (.iconst 0, 1) := by decide +kernel
theorem d_M_push_59 : decode b_M_push 59 = .ok (.istore 4, 2) := by decide +kernel
theorem d_M_push_61 : decode b_M_push 61 = .ok (.iload_n 1, 1) := by decide +kernel
theorem d_M_push_62 : decode b_M_push 62 = .ok (.iconst 1, 1) := by decide +kernel
theorem d_M_push_63 : decode b_M_push 63 = .ok (.if_icmp .lt 23, 3) := by decide +kernel
theorem d_M_push_66 : decode b_M_push 66 = .ok (.iload_n 1, 1) := by decide +kernel
theorem d_M_push_67 : decode b_M_push 67 = .ok (.iconst 5, 1) := by decide +kernel
theorem d_M_push_68 : decode b_M_push 68 = .ok (.if_icmp .gt 18, 3) := by decide +kernel
theorem d_M_push_71 : decode b_M_push 71 = .ok (.iload_n 2, 1) := by decide +kernel
theorem d_M_push_72 : decode b_M_push 72 = .ok (.iload_n 3, 1) := by decide +kernel
theorem d_M_push_73 : decode b_M_push 73 = .ok (.if_icmp .lt 13, 3) := by decide +kernel
theorem d_M_push_76 : decode b_M_push 76 = .ok (.iload_n 2, 1) := by decide +kernel
theorem d_M_push_77 : decode b_M_push 77 = .ok (.iload 4, 2) := by decide +kernel
theorem d_M_push_79 : decode b_M_push 79 = .ok (.if_icmp .gt 7, 3) := by decide +kernel
theorem d_M_push_82 : decode b_M_push 82 = .ok (.iconst 1, 1) := by decide +kernel
theorem d_M_push_83 : decode b_M_push 83 = .ok (.goto 4, 3) := by decide +kernel
theorem d_M_push_86 : decode b_M_push 86 = .ok (.iconst 0, 1) := by decide +kernel
theorem d_M_push_87 : decode b_M_push 87 = .ok (.istore 5, 2) := by decide +kernel
theorem d_M_push_89 : decode b_M_push 89 = .ok (.aload_n 0, 1) := by decide +kernel
theorem d_M_push_90 : decode b_M_push 90 = .ok (.iload 5, 2) := by decide +kernel
theorem d_M_push_92 : decode b_M_push 92 = .ok (.ifCond .ne 7, 3) := by decide +kernel
theorem d_M_push_95 : decode b_M_push 95 = .ok (.iconst 1, 1) := by decide +kernel
theorem d_M_push_96 : decode b_M_push 96 = .ok (.goto 23, 3) := by decide +kernel
theorem d_M_push_99 : decode b_M_push 99 = .ok (.aload_n 0, 1) := by decide +kernel
theorem d_M_push_100 : decode b_M_push 100 = .ok (.getfield 75, 3) := by decide +kernel
theorem d_M_push_103 : decode b_M_push 103 = .ok (.ifCond .ne 11, 3) := by decide +kernel
theorem d_M_push_106 : decode b_M_push 106 = .ok (.aload_n 0, 1) := by decide +kernel
theorem d_M_push_107 : decode b_M_push 107 = .ok (.getfield 79, 3) := by decide +kernel
theorem d_M_push_110 : decode b_M_push 110 = .ok (.iconst 5, 1) := by decide +kernel
theorem d_M_push_111 : decode b_M_push 111 = .ok (.if_icmp .ne 7, 3) := by decide +kernel
theorem d_M_push_114 : decode b_M_push 114 = .ok (.iconst 2, 1) := by decide +kernel
theorem d_M_push_115 : decode b_M_push 115 = .ok (.goto 4, 3) := by decide +kernel
theorem d_M_push_118 : decode b_M_push 118 = .ok (.iconst 0, 1) := by decide +kernel
theorem d_M_push_119 : decode b_M_push 119 = .ok (.putfield 65, 3) := by decide +kernel
theorem d_M_push_122 : decode b_M_push 122 = .ok (.aload_n 0, 1) := by decide +kernel
theorem d_M_push_123 : decode b_M_push 123 = .ok (.getfield 65, 3) := by decide +kernel
theorem d_M_push_126 : decode b_M_push 126 = .ok (.ifCond .le 5, 3) := by decide +kernel
theorem d_M_push_129 : decode b_M_push 129 = .ok (.iconst 0, 1) := by decide +kernel
theorem d_M_push_130 : decode b_M_push 130 = .ok (.ireturn, 1) := by decide +kernel
theorem d_M_push_131 : decode b_M_push 131 = .ok (.aload_n 0, 1) := by decide +kernel
theorem d_M_push_132 : decode b_M_push 132 = .ok (.getfield 79, 3) := by decide +kernel
theorem d_M_push_135 : decode b_M_push 135 = .ok (.istore 6, 2) := by decide +kernel
theorem d_M_push_137 : decode b_M_push 137 = .ok (.aload_n 0, 1) := by decide +kernel
theorem d_M_push_138 : decode b_M_push 138 = .ok (.getfield 20, 3) := by decide +kernel
theorem d_M_push_141 : decode b_M_push 141 = .ok (.iload 6, 2) := by decide +kernel
theorem d_M_push_143 : decode b_M_push 143 = .ok (.iload_n 1, 1) := by decide +kernel
theorem d_M_push_144 : decode b_M_push 144 = .ok (.iastore, 1) := by decide +kernel
theorem d_M_push_145 : decode b_M_push 145 = .ok (.aload_n 0, 1) := by decide +kernel
theorem d_M_push_146 : decode b_M_push 146 = .ok (.getfield 23, 3) := by decide +kernel
theorem d_M_push_149 : decode b_M_push 149 = .ok (.iload 6, 2) := by decide +kernel
theorem d_M_push_151 : decode b_M_push 151 = .ok (.iload_n 2, 1) := by decide +kernel
theorem d_M_push_152 : decode b_M_push 152 = .ok (.iastore, 1) := by decide +kernel
theorem d_M_push_153 : decode b_M_push 153 = .ok (.aload_n 0, 1) := by decide +kernel
theorem d_M_push_154 : decode b_M_push 154 = .ok (.getfield 26, 3) := by decide +kernel
theorem d_M_push_157 : decode b_M_push 157 = .ok (.iload 6, 2) := by decide +kernel
theorem d_M_push_159 : decode b_M_push 159 = .ok (.iload_n 1, 1) := by decide +kernel
theorem d_M_push_160 : decode b_M_push 160 = .ok (.iconst 3, 1) := by decide +kernel
theorem d_M_push_161 : decode b_M_push 161 = .ok (.if_icmp .ne 7, 3) := by decide +kernel
theorem d_M_push_164 : decode b_M_push 164 = .ok (.iload_n 2, 1) := by decide +kernel
theorem d_M_push_165 : decode b_M_push 165 = .ok (.goto 4, 3) := by decide +kernel
theorem d_M_push_168 : decode b_M_push 168 = .ok (.iconst 0, 1) := by decide +kernel
theorem d_M_push_169 : decode b_M_push 169 = .ok (.iastore, 1) := by decide +kernel
theorem d_M_push_170 : decode b_M_push 170 = .ok (.aload_n 0, 1) := by decide +kernel
theorem d_M_push_171 : decode b_M_push 171 = .ok (.getfield 29, 3) := by decide +kernel
theorem d_M_push_174 : decode b_M_push 174 = .ok (.iload 6, 2) := by decide +kernel
theorem d_M_push_176 : decode b_M_push 176 = .ok (.aload_n 0, 1) := by decide +kernel
theorem d_M_push_177 : decode b_M_push 177 = .ok (.getfield 26, 3) := by decide +kernel
theorem d_M_push_180 : decode b_M_push 180 = .ok (.iload 6, 2) := by decide +kernel
theorem d_M_push_182 : decode b_M_push 182 = .ok (.iaload, 1) := by decide +kernel
theorem d_M_push_183 : decode b_M_push 183 = .ok (.iastore, 1) := by decide +kernel
theorem d_M_push_184 : decode b_M_push 184 = .ok (.aload_n 0, 1) := by decide +kernel
theorem d_M_push_185 : decode b_M_push 185 = .ok (.getfield 32, 3) := by decide +kernel
theorem d_M_push_188 : decode b_M_push 188 = .ok (.iload 6, 2) := by decide +kernel
theorem d_M_push_190 : decode b_M_push 190 = .ok (.iconst 0, 1) := by decide +kernel
theorem d_M_push_191 : decode b_M_push 191 = .ok (.bastore, 1) := by decide +kernel
theorem d_M_push_192 : decode b_M_push 192 = .ok (.aload_n 0, 1) := by decide +kernel
theorem d_M_push_193 : decode b_M_push 193 = .ok (.getfield 35, 3) := by decide +kernel
theorem d_M_push_196 : decode b_M_push 196 = .ok (.iload 6, 2) := by decide +kernel
theorem d_M_push_198 : decode b_M_push 198 = .ok (.iconst 0, 1) := by decide +kernel
theorem d_M_push_199 : decode b_M_push 199 = .ok (.bastore, 1) := by decide +kernel
theorem d_M_push_200 : decode b_M_push 200 = .ok (.aload_n 0, 1) := by decide +kernel
theorem d_M_push_201 : decode b_M_push 201 = .ok (.getfield 41, 3) := by decide +kernel
theorem d_M_push_204 : decode b_M_push 204 = .ok (.iload 6, 2) := by decide +kernel
theorem d_M_push_206 : decode b_M_push 206 = .ok (.iconst 0, 1) := by decide +kernel
theorem d_M_push_207 : decode b_M_push 207 = .ok (.iastore, 1) := by decide +kernel
theorem d_M_push_208 : decode b_M_push 208 = .ok (.aload_n 0, 1) := by decide +kernel
theorem d_M_push_209 : decode b_M_push 209 = .ok (.getfield 44, 3) := by decide +kernel
theorem d_M_push_212 : decode b_M_push 212 = .ok (.iload 6, 2) := by decide +kernel
theorem d_M_push_214 : decode b_M_push 214 = .ok (.iconst 0, 1) := by decide +kernel
theorem d_M_push_215 : decode b_M_push 215 = .ok (.iastore, 1) := by decide +kernel
theorem d_M_push_216 : decode b_M_push 216 = .ok (.aload_n 0, 1) := by decide +kernel
theorem d_M_push_217 : decode b_M_push 217 = .ok (.getfield 47, 3) := by decide +kernel
theorem d_M_push_220 : decode b_M_push 220 = .ok (.iload 6, 2) := by decide +kernel
theorem d_M_push_222 : decode b_M_push 222 = .ok (.iconst 0, 1) := by decide +kernel
theorem d_M_push_223 : decode b_M_push 223 = .ok (.bastore, 1) := by decide +kernel
theorem d_M_push_224 : decode b_M_push 224 = .ok (.aload_n 0, 1) := by decide +kernel
theorem d_M_push_225 : decode b_M_push 225 = .ok (.dup, 1) := by decide +kernel
theorem d_M_push_226 : decode b_M_push 226 = .ok (.getfield 79, 3) := by decide +kernel
theorem d_M_push_229 : decode b_M_push 229 = .ok (.iconst 1, 1) := by decide +kernel
theorem d_M_push_230 : decode b_M_push 230 = .ok (.iadd, 1) := by decide +kernel
theorem d_M_push_231 : decode b_M_push 231 = .ok (.putfield 79, 3) := by decide +kernel
theorem d_M_push_234 : decode b_M_push 234 = .ok (.iload 6, 2) := by decide +kernel
theorem d_M_push_236 : decode b_M_push 236 = .ok (.ireturn, 1) := by decide +kernel
theorem d_M_toGive_0 : decode b_M_toGive 0 = .ok (.aload_n 0, 1) := by decide +kernel
theorem d_M_toGive_1 : decode b_M_toGive 1 = .ok (.getfield 41, 3) := by decide +kernel
theorem d_M_toGive_4 : decode b_M_toGive 4 = .ok (.iload_n 1, 1) := by decide +kernel
theorem d_M_toGive_5 : decode b_M_toGive 5 = .ok (.iaload, 1) := by decide +kernel
theorem d_M_toGive_6 : decode b_M_toGive 6 = .ok (.aload_n 0, 1) := by decide +kernel
theorem d_M_toGive_7 : decode b_M_toGive 7 = .ok (.getfield 44, 3) := by decide +kernel
theorem d_M_toGive_10 : decode b_M_toGive 10 = .ok (.iload_n 1, 1) := by decide +kernel
theorem d_M_toGive_11 : decode b_M_toGive 11 = .ok (.iaload, 1) := by decide +kernel
theorem d_M_toGive_12 : decode b_M_toGive 12 = .ok (.isub, 1) := by decide +kernel
theorem d_M_toGive_13 : decode b_M_toGive 13 = .ok (.ireturn, 1) := by decide +kernel
theorem d_M_forget_0 : decode b_M_forget 0 = .ok (.aload_n 0, 1) := by decide +kernel
theorem d_M_forget_1 : decode b_M_forget 1 = .ok (.getfield 41, 3) := by decide +kernel
theorem d_M_forget_4 : decode b_M_forget 4 = .ok (.iload_n 1, 1) := by decide +kernel
theorem d_M_forget_5 : decode b_M_forget 5 = .ok (.aload_n 0, 1) := by decide +kernel
theorem d_M_forget_6 : decode b_M_forget 6 = .ok (.getfield 41, 3) := by decide +kernel
theorem d_M_forget_9 : decode b_M_forget 9 = .ok (.iload_n 1, 1) := by decide +kernel
theorem d_M_forget_10 : decode b_M_forget 10 = .ok (.iaload, 1) := by decide +kernel
theorem d_M_forget_11 : decode b_M_forget 11 = .ok (.iload_n 2, 1) := by decide +kernel
theorem d_M_forget_12 : decode b_M_forget 12 = .ok (.isub, 1) := by decide +kernel
theorem d_M_forget_13 : decode b_M_forget 13 = .ok (.iastore, 1) := by decide +kernel
theorem d_M_forget_14 : decode b_M_forget 14 = .ok (.bipush 64, 2) := by decide +kernel
theorem d_M_forget_16 : decode b_M_forget 16 = .ok (.iload_n 1, 1) := by decide +kernel
theorem d_M_forget_17 : decode b_M_forget 17 = .ok (.imul, 1) := by decide +kernel
theorem d_M_forget_18 : decode b_M_forget 18 = .ok (.istore_n 3, 1) := by decide +kernel
theorem d_M_forget_19 : decode b_M_forget 19 = .ok (.iload_n 3, 1) := by decide +kernel
theorem d_M_forget_20 : decode b_M_forget 20 = .ok (.bipush 64, 2) := by decide +kernel
theorem d_M_forget_22 : decode b_M_forget 22 = .ok (.iload_n 1, 1) := by decide +kernel
theorem d_M_forget_23 : decode b_M_forget 23 = .ok (.imul, 1) := by decide +kernel
theorem d_M_forget_24 : decode b_M_forget 24 = .ok (.aload_n 0, 1) := by decide +kernel
theorem d_M_forget_25 : decode b_M_forget 25 = .ok (.getfield 41, 3) := by decide +kernel
theorem d_M_forget_28 : decode b_M_forget 28 = .ok (.iload_n 1, 1) := by decide +kernel
theorem d_M_forget_29 : decode b_M_forget 29 = .ok (.iaload, 1) := by decide +kernel
theorem d_M_forget_30 : decode b_M_forget 30 = .ok (.iadd, 1) := by decide +kernel
theorem d_M_forget_31 : decode b_M_forget 31 = .ok (.if_icmp .ge 23, 3) := by decide +kernel
theorem d_M_forget_34 : decode b_M_forget 34 = .ok (.aload_n 0, 1) := by decide +kernel
theorem d_M_forget_35 : decode b_M_forget 35 = .ok (.getfield 38, 3) := by decide +kernel
theorem d_M_forget_38 : decode b_M_forget 38 = .ok (.iload_n 3, 1) := by decide +kernel
theorem d_M_forget_39 : decode b_M_forget 39 = .ok (.aload_n 0, 1) := by decide +kernel
theorem d_M_forget_40 : decode b_M_forget 40 = .ok (.getfield 38, 3) := by decide +kernel
theorem d_M_forget_43 : decode b_M_forget 43 = .ok (.iload_n 3, 1) := by decide +kernel
theorem d_M_forget_44 : decode b_M_forget 44 = .ok (.iload_n 2, 1) := by decide +kernel
theorem d_M_forget_45 : decode b_M_forget 45 = .ok (.iadd, 1) := by decide +kernel
theorem d_M_forget_46 : decode b_M_forget 46 = .ok (.iaload, 1) := by decide +kernel
theorem d_M_forget_47 : decode b_M_forget 47 = .ok (.iastore, 1) := by decide +kernel
theorem d_M_forget_48 : decode b_M_forget 48 = .ok (.iinc 3 1, 3) := by decide +kernel
theorem d_M_forget_51 : decode b_M_forget 51 = .ok (.goto (-32), 3) := by decide +kernel
theorem d_M_forget_54 : decode b_M_forget 54 = .ok (.return_, 1) := by decide +kernel
theorem d_M_give_0 : decode b_M_give 0 = .ok (.aload_n 0, 1) := by decide +kernel
theorem d_M_give_1 : decode b_M_give 1 = .ok (.iload_n 2, 1) := by decide +kernel
theorem d_M_give_2 : decode b_M_give 2 = .ok (.aload_n 0, 1) := by decide +kernel
theorem d_M_give_3 : decode b_M_give 3 = .ok (.iload_n 1, 1) := by decide +kernel
theorem d_M_give_4 : decode b_M_give 4 = .ok (.invokevirtual 82, 3) := by decide +kernel
theorem d_M_give_7 : decode b_M_give 7 = .ok (.if_icmp .ge 7, 3) := by decide +kernel
theorem d_M_give_10 : decode b_M_give 10 = .ok (.iload_n 2, 1) := by decide +kernel
theorem d_M_give_11 : decode b_M_give 11 = .ok (.goto 8, 3) := by decide +kernel
theorem d_M_give_14 : decode b_M_give 14 = .ok (.aload_n 0, 1) := by decide +kernel
theorem d_M_give_15 : decode b_M_give 15 = .ok (.iload_n 1, 1) := by decide +kernel
theorem d_M_give_16 : decode b_M_give 16 = .ok (.invokevirtual 82, 3) := by decide +kernel
theorem d_M_give_19 : decode b_M_give 19 = .ok (.putfield 86, 3) := by decide +kernel
theorem d_M_give_22 : decode b_M_give 22 = .ok (.iconst 0, 1) := by decide +kernel
theorem d_M_give_23 : decode b_M_give 23 = .ok (.istore_n 3, 1) := by decide +kernel
theorem d_M_give_24 : decode b_M_give 24 = .ok (.iload_n 3, 1) := by decide +kernel
theorem d_M_give_25 : decode b_M_give 25 = .ok (.aload_n 0, 1) := by decide +kernel
theorem d_M_give_26 : decode b_M_give 26 = .ok (.getfield 86, 3) := by decide +kernel
theorem d_M_give_29 : decode b_M_give 29 = .ok (.if_icmp .ge 33, 3) := by decide +kernel
theorem d_M_give_32 : decode b_M_give 32 = .ok (.aload_n 0, 1) := by decide +kernel
theorem d_M_give_33 : decode b_M_give 33 = .ok (.getfield 56, 3) := by decide +kernel
theorem d_M_give_36 : decode b_M_give 36 = .ok (.iload_n 3, 1) := by decide +kernel
theorem d_M_give_37 : decode b_M_give 37 = .ok (.aload_n 0, 1) := by decide +kernel
theorem d_M_give_38 : decode b_M_give 38 = .ok (.getfield 38, 3) := by decide +kernel
theorem d_M_give_41 : decode b_M_give 41 = .ok (.bipush 64, 2) := by decide +kernel
theorem d_M_give_43 : decode b_M_give 43 = .ok (.iload_n 1, 1) := by decide +kernel
theorem d_M_give_44 : decode b_M_give 44 = .ok (.imul, 1) := by decide +kernel
theorem d_M_give_45 : decode b_M_give 45 = .ok (.aload_n 0, 1) := by decide +kernel
theorem d_M_give_46 : decode b_M_give 46 = .ok (.getfield 44, 3) := by decide +kernel
theorem d_M_give_49 : decode b_M_give 49 = .ok (.iload_n 1, 1) := by decide +kernel
theorem d_M_give_50 : decode b_M_give 50 = .ok (.iaload, 1) := by decide +kernel
theorem d_M_give_51 : decode b_M_give 51 = .ok (.iadd, 1) := by decide +kernel
theorem d_M_give_52 : decode b_M_give 52 = .ok (.iload_n 3, 1) := by decide +kernel
theorem d_M_give_53 : decode b_M_give 53 = .ok (.iadd, 1) := by decide +kernel
theorem d_M_give_54 : decode b_M_give 54 = .ok (.iaload, 1) := by decide +kernel
theorem d_M_give_55 : decode b_M_give 55 = .ok (.iastore, 1) := by decide +kernel
theorem d_M_give_56 : decode b_M_give 56 = .ok (.iinc 3 1, 3) := by decide +kernel
theorem d_M_give_59 : decode b_M_give 59 = .ok (.goto (-35), 3) := by decide +kernel
theorem d_M_give_62 : decode b_M_give 62 = .ok (.aload_n 0, 1) := by decide +kernel
theorem d_M_give_63 : decode b_M_give 63 = .ok (.getfield 44, 3) := by decide +kernel
theorem d_M_give_66 : decode b_M_give 66 = .ok (.iload_n 1, 1) := by decide +kernel
theorem d_M_give_67 : decode b_M_give 67 = .ok (.aload_n 0, 1) := by decide +kernel
theorem d_M_give_68 : decode b_M_give 68 = .ok (.getfield 44, 3) := by decide +kernel
theorem d_M_give_71 : decode b_M_give 71 = .ok (.iload_n 1, 1) := by decide +kernel
theorem d_M_give_72 : decode b_M_give 72 = .ok (.iaload, 1) := by decide +kernel
theorem d_M_give_73 : decode b_M_give 73 = .ok (.aload_n 0, 1) := by decide +kernel
theorem d_M_give_74 : decode b_M_give 74 = .ok (.getfield 86, 3) := by decide +kernel
theorem d_M_give_77 : decode b_M_give 77 = .ok (.iadd, 1) := by decide +kernel
theorem d_M_give_78 : decode b_M_give 78 = .ok (.iastore, 1) := by decide +kernel
theorem d_M_give_79 : decode b_M_give 79 = .ok (.aload_n 0, 1) := by decide +kernel
theorem d_M_give_80 : decode b_M_give 80 = .ok (.getfield 47, 3) := by decide +kernel
theorem d_M_give_83 : decode b_M_give 83 = .ok (.iload_n 1, 1) := by decide +kernel
theorem d_M_give_84 : decode b_M_give 84 = .ok (.baload, 1) := by decide +kernel
theorem d_M_give_85 : decode b_M_give 85 = .ok (.ifCond .eq 25, 3) := by decide +kernel
theorem d_M_give_88 : decode b_M_give 88 = .ok (.aload_n 0, 1) := by decide +kernel
theorem d_M_give_89 : decode b_M_give 89 = .ok (.getfield 44, 3) := by decide +kernel
theorem d_M_give_92 : decode b_M_give 92 = .ok (.iload_n 1, 1) := by decide +kernel
theorem d_M_give_93 : decode b_M_give 93 = .ok (.iaload, 1) := by decide +kernel
theorem d_M_give_94 : decode b_M_give 94 = .ok (.aload_n 0, 1) := by decide +kernel
theorem d_M_give_95 : decode b_M_give 95 = .ok (.getfield 50, 3) := by decide +kernel
theorem d_M_give_98 : decode b_M_give 98 = .ok (.iload_n 1, 1) := by decide +kernel
theorem d_M_give_99 : decode b_M_give 99 = .ok (.iaload, 1) := by decide +kernel
theorem d_M_give_100 : decode b_M_give 100 = .ok (.if_icmp .le 10, 3) := by decide +kernel
theorem d_M_give_103 : decode b_M_give 103 = .ok (.aload_n 0, 1) := by decide +kernel
theorem d_M_give_104 : decode b_M_give 104 = .ok (.getfield 47, 3) := by decide +kernel
theorem d_M_give_107 : decode b_M_give 107 = .ok (.iload_n 1, 1) := by decide +kernel
theorem d_M_give_108 : decode b_M_give 108 = .ok (.iconst 0, 1) := by decide +kernel
theorem d_M_give_109 : decode b_M_give 109 = .ok (.bastore, 1) := by decide +kernel
theorem d_M_give_110 : decode b_M_give 110 = .ok (.aload_n 0, 1) := by decide +kernel
theorem d_M_give_111 : decode b_M_give 111 = .ok (.getfield 47, 3) := by decide +kernel
theorem d_M_give_114 : decode b_M_give 114 = .ok (.iload_n 1, 1) := by decide +kernel
theorem d_M_give_115 : decode b_M_give 115 = .ok (.baload, 1) := by decide +kernel
theorem d_M_give_116 : decode b_M_give 116 = .ok (.ifCond .ne 21, 3) := by decide +kernel
theorem d_M_give_119 : decode b_M_give 119 = .ok (.aload_n 0, 1) := by decide +kernel
theorem d_M_give_120 : decode b_M_give 120 = .ok (.iload_n 1, 1) := by decide +kernel
theorem d_M_give_121 : decode b_M_give 121 = .ok (.aload_n 0, 1) := by decide +kernel
theorem d_M_give_122 : decode b_M_give 122 = .ok (.getfield 44, 3) := by decide +kernel
theorem d_M_give_125 : decode b_M_give 125 = .ok (.iload_n 1, 1) := by decide +kernel
theorem d_M_give_126 : decode b_M_give 126 = .ok (.iaload, 1) := by decide +kernel
theorem d_M_give_127 : decode b_M_give 127 = .ok (.invokevirtual 89, 3) := by decide +kernel
theorem d_M_give_130 : decode b_M_give 130 = .ok (.aload_n 0, 1) := by decide +kernel
theorem d_M_give_131 : decode b_M_give 131 = .ok (.getfield 44, 3) := by decide +kernel
theorem d_M_give_134 : decode b_M_give 134 = .ok (.iload_n 1, 1) := by decide +kernel
theorem d_M_give_135 : decode b_M_give 135 = .ok (.iconst 0, 1) := by decide +kernel
theorem d_M_give_136 : decode b_M_give 136 = .ok (.iastore, 1) := by decide +kernel
theorem d_M_give_137 : decode b_M_give 137 = .ok (.return_, 1) := by decide +kernel
theorem fl_M_7 : fl_Ok "StreamTowerModel" 7 "StreamTowerModel" "source" "[I" "StreamTowerModel" [8] 1 true (.array .int) := ⟨wd_713, by decide +kernel, Or.inl rfl, fun t ht => by obtain rfl := List.mem_singleton.mp ht; exact ⟨_, _, _, rfl, by decide, rfl⟩⟩
theorem fl_M_13 : fl_Ok "StreamTowerModel" 13 "StreamTowerModel" "begins" "[Z" "StreamTowerModel" [8] 2 true (.array .boolean) := ⟨wd_714, by decide +kernel, Or.inl rfl, fun t ht => by obtain rfl := List.mem_singleton.mp ht; exact ⟨_, _, _, rfl, by decide, rfl⟩⟩
theorem fl_M_17 : fl_Ok "StreamTowerModel" 17 "StreamTowerModel" "broken" "[Z" "StreamTowerModel" [8] 3 true (.array .boolean) := ⟨wd_715, by decide +kernel, Or.inl rfl, fun t ht => by obtain rfl := List.mem_singleton.mp ht; exact ⟨_, _, _, rfl, by decide, rfl⟩⟩
theorem fl_M_20 : fl_Ok "StreamTowerModel" 20 "StreamTowerModel" "kind" "[I" "StreamTowerModel" [8] 7 true (.array .int) := ⟨wd_719, by decide +kernel, Or.inl rfl, fun t ht => by obtain rfl := List.mem_singleton.mp ht; exact ⟨_, _, _, rfl, by decide, rfl⟩⟩
theorem fl_M_23 : fl_Ok "StreamTowerModel" 23 "StreamTowerModel" "sizes" "[I" "StreamTowerModel" [8] 8 true (.array .int) := ⟨wd_720, by decide +kernel, Or.inl rfl, fun t ht => by obtain rfl := List.mem_singleton.mp ht; exact ⟨_, _, _, rfl, by decide, rfl⟩⟩
theorem fl_M_26 : fl_Ok "StreamTowerModel" 26 "StreamTowerModel" "state" "[I" "StreamTowerModel" [8] 9 true (.array .int) := ⟨wd_721, by decide +kernel, Or.inl rfl, fun t ht => by obtain rfl := List.mem_singleton.mp ht; exact ⟨_, _, _, rfl, by decide, rfl⟩⟩
theorem fl_M_29 : fl_Ok "StreamTowerModel" 29 "StreamTowerModel" "remembered" "[I" "StreamTowerModel" [8] 10 true (.array .int) := ⟨wd_722, by decide +kernel, Or.inl rfl, fun t ht => by obtain rfl := List.mem_singleton.mp ht; exact ⟨_, _, _, rfl, by decide, rfl⟩⟩
theorem fl_M_32 : fl_Ok "StreamTowerModel" 32 "StreamTowerModel" "cr" "[Z" "StreamTowerModel" [8] 11 true (.array .boolean) := ⟨wd_723, by decide +kernel, Or.inl rfl, fun t ht => by obtain rfl := List.mem_singleton.mp ht; exact ⟨_, _, _, rfl, by decide, rfl⟩⟩
theorem fl_M_35 : fl_Ok "StreamTowerModel" 35 "StreamTowerModel" "crRemembered" "[Z" "StreamTowerModel" [8] 12 true (.array .boolean) := ⟨wd_724, by decide +kernel, Or.inl rfl, fun t ht => by obtain rfl := List.mem_singleton.mp ht; exact ⟨_, _, _, rfl, by decide, rfl⟩⟩
theorem fl_M_38 : fl_Ok "StreamTowerModel" 38 "StreamTowerModel" "bytes" "[I" "StreamTowerModel" [8] 13 true (.array .int) := ⟨wd_725, by decide +kernel, Or.inl rfl, fun t ht => by obtain rfl := List.mem_singleton.mp ht; exact ⟨_, _, _, rfl, by decide, rfl⟩⟩
theorem fl_M_41 : fl_Ok "StreamTowerModel" 41 "StreamTowerModel" "have" "[I" "StreamTowerModel" [8] 14 true (.array .int) := ⟨wd_726, by decide +kernel, Or.inl rfl, fun t ht => by obtain rfl := List.mem_singleton.mp ht; exact ⟨_, _, _, rfl, by decide, rfl⟩⟩
theorem fl_M_44 : fl_Ok "StreamTowerModel" 44 "StreamTowerModel" "given" "[I" "StreamTowerModel" [8] 15 true (.array .int) := ⟨wd_727, by decide +kernel, Or.inl rfl, fun t ht => by obtain rfl := List.mem_singleton.mp ht; exact ⟨_, _, _, rfl, by decide, rfl⟩⟩
theorem fl_M_47 : fl_Ok "StreamTowerModel" 47 "StreamTowerModel" "marked" "[Z" "StreamTowerModel" [8] 16 true (.array .boolean) := ⟨wd_728, by decide +kernel, Or.inl rfl, fun t ht => by obtain rfl := List.mem_singleton.mp ht; exact ⟨_, _, _, rfl, by decide, rfl⟩⟩
theorem fl_M_50 : fl_Ok "StreamTowerModel" 50 "StreamTowerModel" "limit" "[I" "StreamTowerModel" [8] 17 true (.array .int) := ⟨wd_729, by decide +kernel, Or.inl rfl, fun t ht => by obtain rfl := List.mem_singleton.mp ht; exact ⟨_, _, _, rfl, by decide, rfl⟩⟩
theorem fl_M_53 : fl_Ok "StreamTowerModel" 53 "StreamTowerModel" "asked" "[I" "StreamTowerModel" [8] 18 true (.array .int) := ⟨wd_730, by decide +kernel, Or.inl rfl, fun t ht => by obtain rfl := List.mem_singleton.mp ht; exact ⟨_, _, _, rfl, by decide, rfl⟩⟩
theorem fl_M_56 : fl_Ok "StreamTowerModel" 56 "StreamTowerModel" "answer" "[I" "StreamTowerModel" [8] 19 true (.array .int) := ⟨wd_731, by decide +kernel, Or.inl rfl, fun t ht => by obtain rfl := List.mem_singleton.mp ht; exact ⟨_, _, _, rfl, by decide, rfl⟩⟩
theorem fl_M_59 : fl_Ok "StreamTowerModel" 59 "StreamTowerModel" "bag" "[I" "StreamTowerModel" [8] 24 true (.array .int) := ⟨wd_736, by decide +kernel, Or.inl rfl, fun t ht => by obtain rfl := List.mem_singleton.mp ht; exact ⟨_, _, _, rfl, by decide, rfl⟩⟩
theorem fl_M_62 : fl_Ok "StreamTowerModel" 62 "StreamTowerModel" "letters" "[I" "StreamTowerModel" [8] 26 true (.array .int) := ⟨wd_738, by decide +kernel, Or.inl rfl, fun t ht => by obtain rfl := List.mem_singleton.mp ht; exact ⟨_, _, _, rfl, by decide, rfl⟩⟩
theorem md_M_init : md_Ok y_M_init (.code y_M_init b_M_init 1 none) 1 := ⟨wd_710, wd_5, ⟨by decide, by decide⟩, Or.inl ⟨_, _, rfl⟩⟩
theorem ml_M_init : (parseMethodDescriptor y_M_init.desc).map (fun d => d.parameters.length) = some 0 := by decide +kernel
theorem fl_M_65 : fl_Ok "StreamTowerModel" 65 "StreamTowerModel" "code" "I" "StreamTowerModel" [8] 0 false (.int) := ⟨wd_712, by decide +kernel, Or.inl rfl, fun t ht => by obtain rfl := List.mem_singleton.mp ht; exact ⟨_, _, _, rfl, by decide, rfl⟩⟩
theorem md_M_thrown : md_Ok y_M_thrown (.code y_M_thrown b_M_thrown 1 (some .int)) 1 := ⟨wd_800, wd_5, ⟨by decide, by decide⟩, Or.inl ⟨_, _, rfl⟩⟩
theorem ml_M_thrown : (parseMethodDescriptor y_M_thrown.desc).map (fun d => d.parameters.length) = some 0 := by decide +kernel
theorem fl_M_69 : fl_Ok "StreamTowerModel" 69 "StreamTowerModel" "fed" "I" "StreamTowerModel" [8] 4 false (.int) := ⟨wd_716, by decide +kernel, Or.inl rfl, fun t ht => by obtain rfl := List.mem_singleton.mp ht; exact ⟨_, _, _, rfl, by decide, rfl⟩⟩
theorem md_M_feed : md_Ok y_M_feed (.code y_M_feed b_M_feed 4 (some .int)) 4 := ⟨wd_804, wd_5, ⟨by decide, by decide⟩, Or.inl ⟨_, _, rfl⟩⟩
theorem ml_M_feed : (parseMethodDescriptor y_M_feed.desc).map (fun d => d.parameters.length) = some 2 := by decide +kernel
theorem md_M_portion : md_Ok y_M_portion (.code y_M_portion b_M_portion 1 none) 1 := ⟨wd_808, wd_5, ⟨by decide, by decide⟩, Or.inl ⟨_, _, rfl⟩⟩
theorem ml_M_portion : (parseMethodDescriptor y_M_portion.desc).map (fun d => d.parameters.length) = some 0 := by decide +kernel
theorem md_M_breakAt : md_Ok y_M_breakAt (.code y_M_breakAt b_M_breakAt 3 (some .boolean)) 3 := ⟨wd_812, wd_5, ⟨by decide, by decide⟩, Or.inl ⟨_, _, rfl⟩⟩
theorem ml_M_breakAt : (parseMethodDescriptor y_M_breakAt.desc).map (fun d => d.parameters.length) = some 1 := by decide +kernel
theorem fl_M_72 : fl_Ok "StreamTowerModel" 72 "StreamTowerModel" "taken" "I" "StreamTowerModel" [8] 5 false (.int) := ⟨wd_717, by decide +kernel, Or.inl rfl, fun t ht => by obtain rfl := List.mem_singleton.mp ht; exact ⟨_, _, _, rfl, by decide, rfl⟩⟩
theorem md_M_portionLeft : md_Ok y_M_portionLeft (.code y_M_portionLeft b_M_portionLeft 2 (some .int)) 2 := ⟨wd_856, wd_5, ⟨by decide, by decide⟩, Or.inl ⟨_, _, rfl⟩⟩
theorem ml_M_portionLeft : (parseMethodDescriptor y_M_portionLeft.desc).map (fun d => d.parameters.length) = some 0 := by decide +kernel
theorem fl_M_75 : fl_Ok "StreamTowerModel" 75 "StreamTowerModel" "closed" "Z" "StreamTowerModel" [8] 21 false (.boolean) := ⟨wd_733, by decide +kernel, Or.inl rfl, fun t ht => by obtain rfl := List.mem_singleton.mp ht; exact ⟨_, _, _, rfl, by decide, rfl⟩⟩
theorem fl_M_79 : fl_Ok "StreamTowerModel" 79 "StreamTowerModel" "layers" "I" "StreamTowerModel" [8] 6 false (.int) := ⟨wd_718, by decide +kernel, Or.inl rfl, fun t ht => by obtain rfl := List.mem_singleton.mp ht; exact ⟨_, _, _, rfl, by decide, rfl⟩⟩
theorem md_M_push : md_Ok y_M_push (.code y_M_push b_M_push 7 (some .int)) 7 := ⟨wd_816, wd_5, ⟨by decide, by decide⟩, Or.inl ⟨_, _, rfl⟩⟩
theorem ml_M_push : (parseMethodDescriptor y_M_push.desc).map (fun d => d.parameters.length) = some 2 := by decide +kernel
theorem md_M_toGive : md_Ok y_M_toGive (.code y_M_toGive b_M_toGive 2 (some .int)) 2 := ⟨wd_836, wd_5, ⟨by decide, by decide⟩, Or.inl ⟨_, _, rfl⟩⟩
theorem ml_M_toGive : (parseMethodDescriptor y_M_toGive.desc).map (fun d => d.parameters.length) = some 1 := by decide +kernel
theorem md_M_forget : md_Ok y_M_forget (.code y_M_forget b_M_forget 4 none) 4 := ⟨wd_844, wd_5, ⟨by decide, by decide⟩, Or.inl ⟨_, _, rfl⟩⟩
theorem ml_M_forget : (parseMethodDescriptor y_M_forget.desc).map (fun d => d.parameters.length) = some 2 := by decide +kernel
theorem fl_M_86 : fl_Ok "StreamTowerModel" 86 "StreamTowerModel" "count" "I" "StreamTowerModel" [8] 20 false (.int) := ⟨wd_732, by decide +kernel, Or.inl rfl, fun t ht => by obtain rfl := List.mem_singleton.mp ht; exact ⟨_, _, _, rfl, by decide, rfl⟩⟩
theorem md_M_give : md_Ok y_M_give (.code y_M_give b_M_give 4 none) 4 := ⟨wd_840, wd_5, ⟨by decide, by decide⟩, Or.inl ⟨_, _, rfl⟩⟩
theorem ml_M_give : (parseMethodDescriptor y_M_give.desc).map (fun d => d.parameters.length) = some 2 := by decide +kernel
def f_M_init (t0 : Nat) (h0 : Hs_t) : Rs_t := (nw_I 120 120 h0).bind fun h1 => (pt_V [8] 1 h1 t0 (.ref h0.1)).bind fun h2 => (nw_Z 121 121 h2).bind fun h3 => (pt_V [8] 2 h3 t0 (.ref h2.1)).bind fun h4 => (nw_Z 121 121 h4).bind fun h5 => (pt_V [8] 3 h5 t0 (.ref h4.1)).bind fun h6 => (nw_I 5 5 h6).bind fun h7 => (pt_V [8] 7 h7 t0 (.ref h6.1)).bind fun h8 => (nw_I 5 5 h8).bind fun h9 => (pt_V [8] 8 h9 t0 (.ref h8.1)).bind fun h10 => (nw_I 5 5 h10).bind fun h11 => (pt_V [8] 9 h11 t0 (.ref h10.1)).bind fun h12 => (nw_I 5 5 h12).bind fun h13 => (pt_V [8] 10 h13 t0 (.ref h12.1)).bind fun h14 => (nw_Z 5 5 h14).bind fun h15 => (pt_V [8] 11 h15 t0 (.ref h14.1)).bind fun h16 => (nw_Z 5 5 h16).bind fun h17 => (pt_V [8] 12 h17 t0 (.ref h16.1)).bind fun h18 => (nw_I 320 320 h18).bind fun h19 => (pt_V [8] 13 h19 t0 (.ref h18.1)).bind fun h20 => (nw_I 5 5 h20).bind fun h21 => (pt_V [8] 14 h21 t0 (.ref h20.1)).bind fun h22 => (nw_I 5 5 h22).bind fun h23 => (pt_V [8] 15 h23 t0 (.ref h22.1)).bind fun h24 => (nw_Z 5 5 h24).bind fun h25 => (pt_V [8] 16 h25 t0 (.ref h24.1)).bind fun h26 => (nw_I 5 5 h26).bind fun h27 => (pt_V [8] 17 h27 t0 (.ref h26.1)).bind fun h28 => (nw_I 5 5 h28).bind fun h29 => (pt_V [8] 18 h29 t0 (.ref h28.1)).bind fun h30 => (nw_I 120 120 h30).bind fun h31 => (pt_V [8] 19 h31 t0 (.ref h30.1)).bind fun h32 => (nw_I 600 600 h32).bind fun h33 => (pt_V [8] 24 h33 t0 (.ref h32.1)).bind fun h34 => (nw_I 120 120 h34).bind fun h35 => (pt_V [8] 26 h35 t0 (.ref h34.1)).bind fun h36 => (fd_A [8] 2 h36 t0).bind fun v1 => (as_Z h36 v1 0 1).bind fun h37 => re_V h37
set_option maxRecDepth 100000 in
set_option maxHeartbeats 4000000 in
theorem c_M_init {l : Launch} {s0 : State} {A0 : Array Value} {G : Gx_t} (hG : G_0 l s0 A0 G) (rm : Room) (hrm : rm_Ok 18 1577 1 12 rm) (t0 : Nat) (h0 : Hs_t) (r : Outcome × Hs_t) (heq : f_M_init t0 h0 = some r) : M_X G s0 l y_M_init (.code y_M_init b_M_init 1 none) rm [.ref t0] h0 r := by
  refine M_X.of (by decide) hG (fun p e s m below meth c H hc hR => ?_)
  have hx := hc.x
  have hb := hc.b
  obtain ⟨hm1, hm2, hm3, hm4⟩ := id hrm
  have hLo : Lo_k s0 [] := fun _ hq => absurd hq List.not_mem_nil
  have hl := lv_entry ([.ref t0]) (n := 1) (Nat.le_of_ble_eq_true rfl)
  rw [lg_entry_eq]
  generalize (lg_sl ([.ref t0]) ++ List.replicate (1 - (lg_sl ([.ref t0])).length) Slot.unset).toArray = ls at hl ⊢
  have hl : lv_has ls 1 [(0, .ref t0)] := hl
  generalize hle : ([] : List Loc) = locs at hLo ⊢
  unfold f_M_init at heq
  refine lv_aload_n hx hb d_M_init_0 rfl (lv_at hl 0 rfl) ?_
  refine W.objInit hx hb hc.o (hc.w wd_711) (hc.w wd_27) (hc.w wd_28) rfl (by rw [hc.ml]; exact hl.1) rfl d_M_init_1 (by omega) (by show 2 * 0 + 0 + 12 ≤ _; omega) ?_
  refine W.eq (g2 := F0 m 4 ls []) rfl ?_
  refine lv_aload_n hx hb d_M_init_4 rfl (lv_at hl 0 rfl) ?_
  refine lv_bipush (v := 120) hx hb d_M_init_5 (by decide) ?_
  refine x_newI hc hR wd_55 (by decide) ⟨by omega, by omega⟩ heq d_M_init_7 (fun h1 H hR heq => ?_)
  refine x_pV hc hR hLo fl_M_7 (Or.inr ⟨rfl, rfl⟩) rfl rfl heq d_M_init_9 (fun h2 H locs hR hLo heq => ?_)
  refine lv_aload_n hx hb d_M_init_12 rfl (lv_at hl 0 rfl) ?_
  refine lv_bipush (v := 121) hx hb d_M_init_13 (by decide) ?_
  refine x_newZ hc hR wd_56 (by decide) ⟨by omega, by omega⟩ heq d_M_init_15 (fun h3 H hR heq => ?_)
  refine x_pV hc hR hLo fl_M_13 (Or.inr ⟨rfl, rfl⟩) rfl rfl heq d_M_init_17 (fun h4 H locs hR hLo heq => ?_)
  refine lv_aload_n hx hb d_M_init_20 rfl (lv_at hl 0 rfl) ?_
  refine lv_bipush (v := 121) hx hb d_M_init_21 (by decide) ?_
  refine x_newZ hc hR wd_56 (by decide) ⟨by omega, by omega⟩ heq d_M_init_23 (fun h5 H hR heq => ?_)
  refine x_pV hc hR hLo fl_M_17 (Or.inr ⟨rfl, rfl⟩) rfl rfl heq d_M_init_25 (fun h6 H locs hR hLo heq => ?_)
  refine lv_aload_n hx hb d_M_init_28 rfl (lv_at hl 0 rfl) ?_
  refine lv_iconst (v := 5) hx hb d_M_init_29 (by decide) ?_
  refine x_newI hc hR wd_55 (by decide) ⟨by omega, by omega⟩ heq d_M_init_30 (fun h7 H hR heq => ?_)
  refine x_pV hc hR hLo fl_M_20 (Or.inr ⟨rfl, rfl⟩) rfl rfl heq d_M_init_32 (fun h8 H locs hR hLo heq => ?_)
  refine lv_aload_n hx hb d_M_init_35 rfl (lv_at hl 0 rfl) ?_
  refine lv_iconst (v := 5) hx hb d_M_init_36 (by decide) ?_
  refine x_newI hc hR wd_55 (by decide) ⟨by omega, by omega⟩ heq d_M_init_37 (fun h9 H hR heq => ?_)
  refine x_pV hc hR hLo fl_M_23 (Or.inr ⟨rfl, rfl⟩) rfl rfl heq d_M_init_39 (fun h10 H locs hR hLo heq => ?_)
  refine lv_aload_n hx hb d_M_init_42 rfl (lv_at hl 0 rfl) ?_
  refine lv_iconst (v := 5) hx hb d_M_init_43 (by decide) ?_
  refine x_newI hc hR wd_55 (by decide) ⟨by omega, by omega⟩ heq d_M_init_44 (fun h11 H hR heq => ?_)
  refine x_pV hc hR hLo fl_M_26 (Or.inr ⟨rfl, rfl⟩) rfl rfl heq d_M_init_46 (fun h12 H locs hR hLo heq => ?_)
  refine lv_aload_n hx hb d_M_init_49 rfl (lv_at hl 0 rfl) ?_
  refine lv_iconst (v := 5) hx hb d_M_init_50 (by decide) ?_
  refine x_newI hc hR wd_55 (by decide) ⟨by omega, by omega⟩ heq d_M_init_51 (fun h13 H hR heq => ?_)
  refine x_pV hc hR hLo fl_M_29 (Or.inr ⟨rfl, rfl⟩) rfl rfl heq d_M_init_53 (fun h14 H locs hR hLo heq => ?_)
  refine lv_aload_n hx hb d_M_init_56 rfl (lv_at hl 0 rfl) ?_
  refine lv_iconst (v := 5) hx hb d_M_init_57 (by decide) ?_
  refine x_newZ hc hR wd_56 (by decide) ⟨by omega, by omega⟩ heq d_M_init_58 (fun h15 H hR heq => ?_)
  refine x_pV hc hR hLo fl_M_32 (Or.inr ⟨rfl, rfl⟩) rfl rfl heq d_M_init_60 (fun h16 H locs hR hLo heq => ?_)
  refine lv_aload_n hx hb d_M_init_63 rfl (lv_at hl 0 rfl) ?_
  refine lv_iconst (v := 5) hx hb d_M_init_64 (by decide) ?_
  refine x_newZ hc hR wd_56 (by decide) ⟨by omega, by omega⟩ heq d_M_init_65 (fun h17 H hR heq => ?_)
  refine x_pV hc hR hLo fl_M_35 (Or.inr ⟨rfl, rfl⟩) rfl rfl heq d_M_init_67 (fun h18 H locs hR hLo heq => ?_)
  refine lv_aload_n hx hb d_M_init_70 rfl (lv_at hl 0 rfl) ?_
  refine lv_sipush (v := 320) hx hb d_M_init_71 (by decide) ?_
  refine x_newI hc hR wd_55 (by decide) ⟨by omega, by omega⟩ heq d_M_init_74 (fun h19 H hR heq => ?_)
  refine x_pV hc hR hLo fl_M_38 (Or.inr ⟨rfl, rfl⟩) rfl rfl heq d_M_init_76 (fun h20 H locs hR hLo heq => ?_)
  refine lv_aload_n hx hb d_M_init_79 rfl (lv_at hl 0 rfl) ?_
  refine lv_iconst (v := 5) hx hb d_M_init_80 (by decide) ?_
  refine x_newI hc hR wd_55 (by decide) ⟨by omega, by omega⟩ heq d_M_init_81 (fun h21 H hR heq => ?_)
  refine x_pV hc hR hLo fl_M_41 (Or.inr ⟨rfl, rfl⟩) rfl rfl heq d_M_init_83 (fun h22 H locs hR hLo heq => ?_)
  refine lv_aload_n hx hb d_M_init_86 rfl (lv_at hl 0 rfl) ?_
  refine lv_iconst (v := 5) hx hb d_M_init_87 (by decide) ?_
  refine x_newI hc hR wd_55 (by decide) ⟨by omega, by omega⟩ heq d_M_init_88 (fun h23 H hR heq => ?_)
  refine x_pV hc hR hLo fl_M_44 (Or.inr ⟨rfl, rfl⟩) rfl rfl heq d_M_init_90 (fun h24 H locs hR hLo heq => ?_)
  refine lv_aload_n hx hb d_M_init_93 rfl (lv_at hl 0 rfl) ?_
  refine lv_iconst (v := 5) hx hb d_M_init_94 (by decide) ?_
  refine x_newZ hc hR wd_56 (by decide) ⟨by omega, by omega⟩ heq d_M_init_95 (fun h25 H hR heq => ?_)
  refine x_pV hc hR hLo fl_M_47 (Or.inr ⟨rfl, rfl⟩) rfl rfl heq d_M_init_97 (fun h26 H locs hR hLo heq => ?_)
  refine lv_aload_n hx hb d_M_init_100 rfl (lv_at hl 0 rfl) ?_
  refine lv_iconst (v := 5) hx hb d_M_init_101 (by decide) ?_
  refine x_newI hc hR wd_55 (by decide) ⟨by omega, by omega⟩ heq d_M_init_102 (fun h27 H hR heq => ?_)
  refine x_pV hc hR hLo fl_M_50 (Or.inr ⟨rfl, rfl⟩) rfl rfl heq d_M_init_104 (fun h28 H locs hR hLo heq => ?_)
  refine lv_aload_n hx hb d_M_init_107 rfl (lv_at hl 0 rfl) ?_
  refine lv_iconst (v := 5) hx hb d_M_init_108 (by decide) ?_
  refine x_newI hc hR wd_55 (by decide) ⟨by omega, by omega⟩ heq d_M_init_109 (fun h29 H hR heq => ?_)
  refine x_pV hc hR hLo fl_M_53 (Or.inr ⟨rfl, rfl⟩) rfl rfl heq d_M_init_111 (fun h30 H locs hR hLo heq => ?_)
  refine lv_aload_n hx hb d_M_init_114 rfl (lv_at hl 0 rfl) ?_
  refine lv_bipush (v := 120) hx hb d_M_init_115 (by decide) ?_
  refine x_newI hc hR wd_55 (by decide) ⟨by omega, by omega⟩ heq d_M_init_117 (fun h31 H hR heq => ?_)
  refine x_pV hc hR hLo fl_M_56 (Or.inr ⟨rfl, rfl⟩) rfl rfl heq d_M_init_119 (fun h32 H locs hR hLo heq => ?_)
  refine lv_aload_n hx hb d_M_init_122 rfl (lv_at hl 0 rfl) ?_
  refine lv_sipush (v := 600) hx hb d_M_init_123 (by decide) ?_
  refine x_newI hc hR wd_55 (by decide) ⟨by omega, by omega⟩ heq d_M_init_126 (fun h33 H hR heq => ?_)
  refine x_pV hc hR hLo fl_M_59 (Or.inr ⟨rfl, rfl⟩) rfl rfl heq d_M_init_128 (fun h34 H locs hR hLo heq => ?_)
  refine lv_aload_n hx hb d_M_init_131 rfl (lv_at hl 0 rfl) ?_
  refine lv_bipush (v := 120) hx hb d_M_init_132 (by decide) ?_
  refine x_newI hc hR wd_55 (by decide) ⟨by omega, by omega⟩ heq d_M_init_134 (fun h35 H hR heq => ?_)
  refine x_pV hc hR hLo fl_M_62 (Or.inr ⟨rfl, rfl⟩) rfl rfl heq d_M_init_136 (fun h36 H locs hR hLo heq => ?_)
  refine lv_aload_n hx hb d_M_init_139 rfl (lv_at hl 0 rfl) ?_
  refine x_gA hc hR fl_M_13 heq d_M_init_140 (fun v1 heq => ?_)
  refine lv_iconst (v := 0) hx hb d_M_init_143 (by decide) ?_
  refine lv_iconst (v := 1) hx hb d_M_init_144 (by decide) ?_
  refine x_sZ hc hR hLo heq d_M_init_145 (fun h37 H locs hR hLo heq => ?_)
  exact x_vret hc hR hLo ⟨by omega, by omega⟩ heq d_M_init_146
def rm_M_init : Room := { frames := 1, cells := 18, slots := 1577, locals := 12 }
theorem rk_M_init : rm_Ok 18 1577 1 12 rm_M_init := ⟨Nat.le_refl _, Nat.le_refl _, Nat.le_refl _, Nat.le_refl _⟩
def f_M_thrown (t0 : Nat) (h0 : Hs_t) : Rs_t := (fd_I [8] 0 h0 t0).bind fun v1 => re_I v1 h0
set_option maxRecDepth 100000 in
set_option maxHeartbeats 4000000 in
theorem c_M_thrown {l : Launch} {s0 : State} {A0 : Array Value} {G : Gx_t} (hG : G_0 l s0 A0 G) (rm : Room) (hrm : rm_Ok 0 0 0 0 rm) (t0 : Nat) (h0 : Hs_t) (r : Outcome × Hs_t) (heq : f_M_thrown t0 h0 = some r) : M_X G s0 l y_M_thrown (.code y_M_thrown b_M_thrown 1 (some .int)) rm [.ref t0] h0 r := by
  refine M_X.of (by decide) hG (fun p e s m below meth c H hc hR => ?_)
  have hx := hc.x
  have hb := hc.b
  obtain ⟨hm1, hm2, hm3, hm4⟩ := id hrm
  have hLo : Lo_k s0 [] := fun _ hq => absurd hq List.not_mem_nil
  have hl := lv_entry ([.ref t0]) (n := 1) (Nat.le_of_ble_eq_true rfl)
  rw [lg_entry_eq]
  generalize (lg_sl ([.ref t0]) ++ List.replicate (1 - (lg_sl ([.ref t0])).length) Slot.unset).toArray = ls at hl ⊢
  have hl : lv_has ls 1 [(0, .ref t0)] := hl
  generalize hle : ([] : List Loc) = locs at hLo ⊢
  unfold f_M_thrown at heq
  refine lv_aload_n hx hb d_M_thrown_0 rfl (lv_at hl 0 rfl) ?_
  refine x_gI hc hR fl_M_65 heq d_M_thrown_1 (fun v1 heq => ?_)
  exact x_iret hc hR hLo ⟨by omega, by omega⟩ heq d_M_thrown_4
def rm_M_thrown : Room := { frames := 0, cells := 0, slots := 0, locals := 0 }
theorem rk_M_thrown : rm_Ok 0 0 0 0 rm_M_thrown := ⟨Nat.le_refl _, Nat.le_refl _, Nat.le_refl _, Nat.le_refl _⟩
def f_M_feed_b47 : Nat → Nat → Int32 → Int32 → Hs_t → Rs_t
  | 0, _, _, _, _ => none
  | n + 1, t0, x1, x3, h0 => if x3 < 0 then ((fd_I [8] 4 h0 t0).bind fun v3 => re_I v3 h0) else ((fd_A [8] 1 h0 t0).bind fun v4 => (fd_I [8] 4 h0 t0).bind fun v5 => (as_I h0 v4 v5 ((x1 >>> ((8 * x3) &&& 31)) &&& 255)).bind fun h2 => (fd_I [8] 4 h2 t0).bind fun v6 => (pt_V [8] 4 h2 t0 (.int (v6 + 1))).bind fun h3 => (f_M_feed_b47 n) t0 x1 (x3 + (-1)) h3)
def f_M_feed_b31 (t0 : Nat) (x1 : Int32) (x2 : Int32) (sv0 : Int32) (sv1 : Nat) (h0 : Hs_t) : Rs_t := (pt_V [8] 0 h0 sv1 (.int sv0)).bind fun h1 => (fd_I [8] 0 h1 t0).bind fun v2 => if v2 ≤ 0 then (f_M_feed_b47 fu_N t0 x1 (x2 - 1) h1) else (re_I 0 h1)
def f_M_feed_b11 (t0 : Nat) (x1 : Int32) (x2 : Int32) (sv0 : Nat) (h0 : Hs_t) : Rs_t := f_M_feed_b31 t0 x1 x2 1 sv0 h0
def f_M_feed (t0 : Nat) (x1 : Int32) (x2 : Int32) (h0 : Hs_t) : Rs_t := if x2 < 1 then (f_M_feed_b11 t0 x1 x2 t0 h0) else (if x2 ≤ 4 then ((fd_I [8] 4 h0 t0).bind fun v1 => if (v1 + x2) ≤ 120 then (f_M_feed_b31 t0 x1 x2 0 t0 h0) else (f_M_feed_b31 t0 x1 x2 2 t0 h0)) else (f_M_feed_b11 t0 x1 x2 t0 h0))
set_option maxRecDepth 100000 in
set_option maxHeartbeats 4000000 in
theorem k_M_feed_b47 {p : Program} {l : Launch} {e : Env} {s : State} {m : MethodId} {args : Array Value} {below : List Frame} {meth : Method} {c : Code} {s0 : State} {A0 : Array Value} {G : Gx_t} {r : Outcome × Hs_t} {rm : Room} (hc : Cx_t p s m meth c s0 A0 l G y_M_feed b_M_feed 4 (some .int) []) (hrm : rm_Ok 0 0 0 0 rm) : ∀ (n : Nat) (t0 : Nat) (x1 : Int32) (x3 : Int32) (h0 : Hs_t) (H : Heap) (locs : List Loc) (ls : Array Slot), Rp_h G s0.heap h0 H → Lo_k s0 locs → lv_has ls 4 [(0, .ref t0), (1, .int x1), (3, .int x3)] → f_M_feed_b47 n t0 x1 x3 h0 = some r → W p l e rm s m args below meth c H locs 0 0 (xq_MQ G s0 below r s rm.cells rm.slots) (F0 m 47 ls []) := by
  have hx := hc.x
  have hb := hc.b
  obtain ⟨hm1, hm2, hm3, hm4⟩ := id hrm
  intro n
  induction n with
  | zero =>
    intro t0 x1 x3 h0 H locs ls hR hLo hl heq
    unfold f_M_feed_b47 at heq
    cases heq
  | succ n hr47 =>
    intro t0 x1 x3 h0 H locs ls hR hLo hl heq
    unfold f_M_feed_b47 at heq
    refine lv_iload_n hx hb d_M_feed_47 rfl (lv_at hl 2 rfl) ?_
    refine lv_if_lt (tgt := 86) hx hb d_M_feed_48 rfl (fun hq => ?_) (fun hq => ?_)
    · rw [if_pos hq] at heq
      refine lv_aload_n hx hb d_M_feed_86 rfl (lv_at hl 0 rfl) ?_
      refine x_gI hc hR fl_M_69 heq d_M_feed_87 (fun v3 heq => ?_)
      exact x_iret hc hR hLo ⟨by omega, by omega⟩ heq d_M_feed_90
    · rw [if_neg hq] at heq
      refine lv_aload_n hx hb d_M_feed_51 rfl (lv_at hl 0 rfl) ?_
      refine x_gA hc hR fl_M_7 heq d_M_feed_52 (fun v4 heq => ?_)
      refine lv_aload_n hx hb d_M_feed_55 rfl (lv_at hl 0 rfl) ?_
      refine x_gI hc hR fl_M_69 heq d_M_feed_56 (fun v5 heq => ?_)
      refine lv_iload_n hx hb d_M_feed_59 rfl (lv_at hl 1 rfl) ?_
      refine lv_bipush (v := 8) hx hb d_M_feed_60 (by decide) ?_
      refine lv_iload_n hx hb d_M_feed_62 rfl (lv_at hl 2 rfl) ?_
      refine lv_imul hx hb d_M_feed_63 ?_
      refine lv_ishr hx hb d_M_feed_64 ?_
      refine lv_sipush (v := 255) hx hb d_M_feed_65 (by decide) ?_
      refine lv_iand hx hb d_M_feed_68 ?_
      refine x_sI hc hR hLo heq d_M_feed_69 (fun h2 H locs hR hLo heq => ?_)
      refine lv_aload_n hx hb d_M_feed_70 rfl (lv_at hl 0 rfl) ?_
      refine lv_dup hx hb d_M_feed_71 rfl ?_
      refine x_gI hc hR fl_M_69 heq d_M_feed_72 (fun v6 heq => ?_)
      refine lv_iconst (v := 1) hx hb d_M_feed_75 (by decide) ?_
      refine lv_iadd hx hb d_M_feed_76 ?_
      refine x_pV hc hR hLo fl_M_69 (Or.inl rfl) rfl rfl heq d_M_feed_77 (fun h3 H locs hR hLo heq => ?_)
      refine lv_iinc (k := 2) (v := (x3 + (-1))) (lv' := [(3, .int (x3 + (-1))), (0, .ref t0), (1, .int x1)]) hx hb d_M_feed_80 hl rfl rfl (by decide) rfl (fun ls hl => ?_)
      refine lv_goto (tgt := 47) hx hb d_M_feed_83 rfl ?_
      refine W.widen (k := 0) (n := 0) (by omega) (by omega) ?_
      exact hr47 t0 x1 (x3 + (-1)) h3 H locs ls hR hLo (lv_sub hl [1, 2, 0] rfl) heq
set_option maxRecDepth 100000 in
set_option maxHeartbeats 4000000 in
theorem k_M_feed_b31 {p : Program} {l : Launch} {e : Env} {s : State} {m : MethodId} {args : Array Value} {below : List Frame} {meth : Method} {c : Code} {s0 : State} {A0 : Array Value} {G : Gx_t} {r : Outcome × Hs_t} {rm : Room} (hc : Cx_t p s m meth c s0 A0 l G y_M_feed b_M_feed 4 (some .int) []) (hrm : rm_Ok 0 0 0 0 rm) : ∀ (t0 : Nat) (x1 : Int32) (x2 : Int32) (sv0 : Int32) (sv1 : Nat) (h0 : Hs_t) (H : Heap) (locs : List Loc) (ls : Array Slot), Rp_h G s0.heap h0 H → Lo_k s0 locs → lv_has ls 4 [(0, .ref t0), (1, .int x1), (2, .int x2)] → f_M_feed_b31 t0 x1 x2 sv0 sv1 h0 = some r → W p l e rm s m args below meth c H locs 0 0 (xq_MQ G s0 below r s rm.cells rm.slots) (F0 m 31 ls [.int sv0, .ref sv1]) := by
  have hx := hc.x
  have hb := hc.b
  obtain ⟨hm1, hm2, hm3, hm4⟩ := id hrm
  intro t0 x1 x2 sv0 sv1 h0 H locs ls hR hLo hl heq
  unfold f_M_feed_b31 at heq
  refine x_pV hc hR hLo fl_M_65 (Or.inl rfl) rfl rfl heq d_M_feed_31 (fun h1 H locs hR hLo heq => ?_)
  refine lv_aload_n hx hb d_M_feed_34 rfl (lv_at hl 0 rfl) ?_
  refine x_gI hc hR fl_M_65 heq d_M_feed_35 (fun v2 heq => ?_)
  refine lv_if_le (tgt := 43) hx hb d_M_feed_38 rfl (fun hq => ?_) (fun hq => ?_)
  · rw [if_pos hq] at heq
    refine lv_iload_n hx hb d_M_feed_43 rfl (lv_at hl 2 rfl) ?_
    refine lv_iconst (v := 1) hx hb d_M_feed_44 (by decide) ?_
    refine lv_isub hx hb d_M_feed_45 ?_
    refine lv_istore_n (lv' := [(3, .int (x2 - 1)), (0, .ref t0), (1, .int x1), (2, .int x2)]) hx hb d_M_feed_46 rfl hl (by decide) rfl (fun ls hl => ?_)
    refine W.widen (k := 0) (n := 0) (by omega) (by omega) ?_
    exact k_M_feed_b47 hc hrm fu_N t0 x1 (x2 - 1) h1 H locs ls hR hLo (lv_sub hl [1, 2, 0] rfl) heq
  · rw [if_neg hq] at heq
    refine lv_iconst (v := 0) hx hb d_M_feed_41 (by decide) ?_
    exact x_iret hc hR hLo ⟨by omega, by omega⟩ heq d_M_feed_42
set_option maxRecDepth 100000 in
set_option maxHeartbeats 4000000 in
theorem k_M_feed_b11 {p : Program} {l : Launch} {e : Env} {s : State} {m : MethodId} {args : Array Value} {below : List Frame} {meth : Method} {c : Code} {s0 : State} {A0 : Array Value} {G : Gx_t} {r : Outcome × Hs_t} {rm : Room} (hc : Cx_t p s m meth c s0 A0 l G y_M_feed b_M_feed 4 (some .int) []) (hrm : rm_Ok 0 0 0 0 rm) : ∀ (t0 : Nat) (x1 : Int32) (x2 : Int32) (sv0 : Nat) (h0 : Hs_t) (H : Heap) (locs : List Loc) (ls : Array Slot), Rp_h G s0.heap h0 H → Lo_k s0 locs → lv_has ls 4 [(0, .ref t0), (1, .int x1), (2, .int x2)] → f_M_feed_b11 t0 x1 x2 sv0 h0 = some r → W p l e rm s m args below meth c H locs 0 0 (xq_MQ G s0 below r s rm.cells rm.slots) (F0 m 11 ls [.ref sv0]) := by
  have hx := hc.x
  have hb := hc.b
  obtain ⟨hm1, hm2, hm3, hm4⟩ := id hrm
  intro t0 x1 x2 sv0 h0 H locs ls hR hLo hl heq
  unfold f_M_feed_b11 at heq
  refine lv_iconst (v := 1) hx hb d_M_feed_11 (by decide) ?_
  refine lv_goto (tgt := 31) hx hb d_M_feed_12 rfl ?_
  refine W.widen (k := 0) (n := 0) (by omega) (by omega) ?_
  exact k_M_feed_b31 hc hrm t0 x1 x2 1 sv0 h0 H locs ls hR hLo (lv_sub hl [0, 1, 2] rfl) heq
set_option maxRecDepth 100000 in
set_option maxHeartbeats 4000000 in
theorem c_M_feed {l : Launch} {s0 : State} {A0 : Array Value} {G : Gx_t} (hG : G_0 l s0 A0 G) (rm : Room) (hrm : rm_Ok 0 0 0 0 rm) (t0 : Nat) (x1 : Int32) (x2 : Int32) (h0 : Hs_t) (r : Outcome × Hs_t) (heq : f_M_feed t0 x1 x2 h0 = some r) : M_X G s0 l y_M_feed (.code y_M_feed b_M_feed 4 (some .int)) rm [.ref t0, .int x1, .int x2] h0 r := by
  refine M_X.of (by decide) hG (fun p e s m below meth c H hc hR => ?_)
  have hx := hc.x
  have hb := hc.b
  obtain ⟨hm1, hm2, hm3, hm4⟩ := id hrm
  have hLo : Lo_k s0 [] := fun _ hq => absurd hq List.not_mem_nil
  have hl := lv_entry ([.ref t0, .int x1, .int x2]) (n := 4) (Nat.le_of_ble_eq_true rfl)
  rw [lg_entry_eq]
  generalize (lg_sl ([.ref t0, .int x1, .int x2]) ++ List.replicate (4 - (lg_sl ([.ref t0, .int x1, .int x2])).length) Slot.unset).toArray = ls at hl ⊢
  have hl : lv_has ls 4 [(0, .ref t0), (1, .int x1), (2, .int x2)] := hl
  generalize hle : ([] : List Loc) = locs at hLo ⊢
  unfold f_M_feed at heq
  refine lv_aload_n hx hb d_M_feed_0 rfl (lv_at hl 0 rfl) ?_
  refine lv_iload_n hx hb d_M_feed_1 rfl (lv_at hl 2 rfl) ?_
  refine lv_iconst (v := 1) hx hb d_M_feed_2 (by decide) ?_
  refine lv_icmp_lt (tgt := 11) hx hb d_M_feed_3 rfl (fun hq => ?_) (fun hq => ?_)
  · rw [if_pos hq] at heq
    refine W.widen (k := 0) (n := 0) (by omega) (by omega) ?_
    exact k_M_feed_b11 hc hrm t0 x1 x2 t0 h0 H locs ls hR hLo (lv_sub hl [0, 1, 2] rfl) heq
  · rw [if_neg hq] at heq
    refine lv_iload_n hx hb d_M_feed_6 rfl (lv_at hl 2 rfl) ?_
    refine lv_iconst (v := 4) hx hb d_M_feed_7 (by decide) ?_
    refine lv_icmp_le (tgt := 15) hx hb d_M_feed_8 rfl (fun hq => ?_) (fun hq => ?_)
    · rw [if_pos hq] at heq
      refine lv_aload_n hx hb d_M_feed_15 rfl (lv_at hl 0 rfl) ?_
      refine x_gI hc hR fl_M_69 heq d_M_feed_16 (fun v1 heq => ?_)
      refine lv_iload_n hx hb d_M_feed_19 rfl (lv_at hl 2 rfl) ?_
      refine lv_iadd hx hb d_M_feed_20 ?_
      refine lv_bipush (v := 120) hx hb d_M_feed_21 (by decide) ?_
      refine lv_icmp_le (tgt := 30) hx hb d_M_feed_23 rfl (fun hq => ?_) (fun hq => ?_)
      · rw [if_pos hq] at heq
        refine lv_iconst (v := 0) hx hb d_M_feed_30 (by decide) ?_
        refine W.widen (k := 0) (n := 0) (by omega) (by omega) ?_
        exact k_M_feed_b31 hc hrm t0 x1 x2 0 t0 h0 H locs ls hR hLo (lv_sub hl [0, 1, 2] rfl) heq
      · rw [if_neg hq] at heq
        refine lv_iconst (v := 2) hx hb d_M_feed_26 (by decide) ?_
        refine lv_goto (tgt := 31) hx hb d_M_feed_27 rfl ?_
        refine W.widen (k := 0) (n := 0) (by omega) (by omega) ?_
        exact k_M_feed_b31 hc hrm t0 x1 x2 2 t0 h0 H locs ls hR hLo (lv_sub hl [0, 1, 2] rfl) heq
    · rw [if_neg hq] at heq
      refine W.widen (k := 0) (n := 0) (by omega) (by omega) ?_
      exact k_M_feed_b11 hc hrm t0 x1 x2 t0 h0 H locs ls hR hLo (lv_sub hl [0, 1, 2] rfl) heq
def rm_M_feed : Room := { frames := 0, cells := 0, slots := 0, locals := 0 }
theorem rk_M_feed : rm_Ok 0 0 0 0 rm_M_feed := ⟨Nat.le_refl _, Nat.le_refl _, Nat.le_refl _, Nat.le_refl _⟩
def f_M_portion (t0 : Nat) (h0 : Hs_t) : Rs_t := (pt_V [8] 0 h0 t0 (.int 0)).bind fun h1 => (fd_A [8] 2 h1 t0).bind fun v1 => (fd_I [8] 4 h1 t0).bind fun v2 => (as_Z h1 v1 v2 1).bind fun h2 => re_V h2
set_option maxRecDepth 100000 in
set_option maxHeartbeats 4000000 in
theorem c_M_portion {l : Launch} {s0 : State} {A0 : Array Value} {G : Gx_t} (hG : G_0 l s0 A0 G) (rm : Room) (hrm : rm_Ok 0 0 0 0 rm) (t0 : Nat) (h0 : Hs_t) (r : Outcome × Hs_t) (heq : f_M_portion t0 h0 = some r) : M_X G s0 l y_M_portion (.code y_M_portion b_M_portion 1 none) rm [.ref t0] h0 r := by
  refine M_X.of (by decide) hG (fun p e s m below meth c H hc hR => ?_)
  have hx := hc.x
  have hb := hc.b
  obtain ⟨hm1, hm2, hm3, hm4⟩ := id hrm
  have hLo : Lo_k s0 [] := fun _ hq => absurd hq List.not_mem_nil
  have hl := lv_entry ([.ref t0]) (n := 1) (Nat.le_of_ble_eq_true rfl)
  rw [lg_entry_eq]
  generalize (lg_sl ([.ref t0]) ++ List.replicate (1 - (lg_sl ([.ref t0])).length) Slot.unset).toArray = ls at hl ⊢
  have hl : lv_has ls 1 [(0, .ref t0)] := hl
  generalize hle : ([] : List Loc) = locs at hLo ⊢
  unfold f_M_portion at heq
  refine lv_aload_n hx hb d_M_portion_0 rfl (lv_at hl 0 rfl) ?_
  refine lv_iconst (v := 0) hx hb d_M_portion_1 (by decide) ?_
  refine x_pV hc hR hLo fl_M_65 (Or.inl rfl) rfl rfl heq d_M_portion_2 (fun h1 H locs hR hLo heq => ?_)
  refine lv_aload_n hx hb d_M_portion_5 rfl (lv_at hl 0 rfl) ?_
  refine x_gA hc hR fl_M_13 heq d_M_portion_6 (fun v1 heq => ?_)
  refine lv_aload_n hx hb d_M_portion_9 rfl (lv_at hl 0 rfl) ?_
  refine x_gI hc hR fl_M_69 heq d_M_portion_10 (fun v2 heq => ?_)
  refine lv_iconst (v := 1) hx hb d_M_portion_13 (by decide) ?_
  refine x_sZ hc hR hLo heq d_M_portion_14 (fun h2 H locs hR hLo heq => ?_)
  exact x_vret hc hR hLo ⟨by omega, by omega⟩ heq d_M_portion_15
def rm_M_portion : Room := { frames := 0, cells := 0, slots := 0, locals := 0 }
theorem rk_M_portion : rm_Ok 0 0 0 0 rm_M_portion := ⟨Nat.le_refl _, Nat.le_refl _, Nat.le_refl _, Nat.le_refl _⟩
def f_M_breakAt_b16 (h0 : Hs_t) : Rs_t := re_Z 0 h0
def f_M_breakAt_b33 : Nat → Nat → Int32 → Hs_t → Rs_t
  | 0, _, _, _ => none
  | n + 1, t0, x2, h0 => if 120 < x2 then (re_Z 1 h0) else ((fd_A [8] 3 h0 t0).bind fun v2 => (as_Z h0 v2 x2 0).bind fun h3 => (f_M_breakAt_b33 n) t0 (x2 + 1) h3)
def f_M_breakAt (t0 : Nat) (x1 : Int32) (h0 : Hs_t) : Rs_t := (pt_V [8] 0 h0 t0 (.int 0)).bind fun h1 => if x1 < (-1) then (f_M_breakAt_b16 h1) else (if x1 ≤ 120 then (if x1 < 0 then (f_M_breakAt_b33 fu_N t0 0 h1) else ((fd_A [8] 3 h1 t0).bind fun v1 => (as_Z h1 v1 x1 1).bind fun h2 => re_Z 1 h2)) else (f_M_breakAt_b16 h1))
set_option maxRecDepth 100000 in
set_option maxHeartbeats 4000000 in
theorem k_M_breakAt_b16 {p : Program} {l : Launch} {e : Env} {s : State} {m : MethodId} {args : Array Value} {below : List Frame} {meth : Method} {c : Code} {s0 : State} {A0 : Array Value} {G : Gx_t} {r : Outcome × Hs_t} {rm : Room} (hc : Cx_t p s m meth c s0 A0 l G y_M_breakAt b_M_breakAt 3 (some .boolean) []) (hrm : rm_Ok 0 0 0 0 rm) : ∀  (h0 : Hs_t) (H : Heap) (locs : List Loc) (ls : Array Slot), Rp_h G s0.heap h0 H → Lo_k s0 locs → lv_has ls 3 [] → f_M_breakAt_b16  h0 = some r → W p l e rm s m args below meth c H locs 0 0 (xq_MQ G s0 below r s rm.cells rm.slots) (F0 m 16 ls []) := by
  have hx := hc.x
  have hb := hc.b
  obtain ⟨hm1, hm2, hm3, hm4⟩ := id hrm
  intro  h0 H locs ls hR hLo hl heq
  unfold f_M_breakAt_b16 at heq
  refine lv_iconst (v := 0) hx hb d_M_breakAt_16 (by decide) ?_
  exact x_zret hc hR hLo ⟨by omega, by omega⟩ heq d_M_breakAt_17
set_option maxRecDepth 100000 in
set_option maxHeartbeats 4000000 in
theorem k_M_breakAt_b33 {p : Program} {l : Launch} {e : Env} {s : State} {m : MethodId} {args : Array Value} {below : List Frame} {meth : Method} {c : Code} {s0 : State} {A0 : Array Value} {G : Gx_t} {r : Outcome × Hs_t} {rm : Room} (hc : Cx_t p s m meth c s0 A0 l G y_M_breakAt b_M_breakAt 3 (some .boolean) []) (hrm : rm_Ok 0 0 0 0 rm) : ∀ (n : Nat) (t0 : Nat) (x2 : Int32) (h0 : Hs_t) (H : Heap) (locs : List Loc) (ls : Array Slot), Rp_h G s0.heap h0 H → Lo_k s0 locs → lv_has ls 3 [(0, .ref t0), (2, .int x2)] → f_M_breakAt_b33 n t0 x2 h0 = some r → W p l e rm s m args below meth c H locs 0 0 (xq_MQ G s0 below r s rm.cells rm.slots) (F0 m 33 ls []) := by
  have hx := hc.x
  have hb := hc.b
  obtain ⟨hm1, hm2, hm3, hm4⟩ := id hrm
  intro n
  induction n with
  | zero =>
    intro t0 x2 h0 H locs ls hR hLo hl heq
    unfold f_M_breakAt_b33 at heq
    cases heq
  | succ n hr33 =>
    intro t0 x2 h0 H locs ls hR hLo hl heq
    unfold f_M_breakAt_b33 at heq
    refine lv_iload_n hx hb d_M_breakAt_33 rfl (lv_at hl 1 rfl) ?_
    refine lv_bipush (v := 120) hx hb d_M_breakAt_34 (by decide) ?_
    refine lv_icmp_gt (tgt := 52) hx hb d_M_breakAt_36 rfl (fun hq => ?_) (fun hq => ?_)
    · rw [if_pos hq] at heq
      refine lv_iconst (v := 1) hx hb d_M_breakAt_52 (by decide) ?_
      exact x_zret hc hR hLo ⟨by omega, by omega⟩ heq d_M_breakAt_53
    · rw [if_neg hq] at heq
      refine lv_aload_n hx hb d_M_breakAt_39 rfl (lv_at hl 0 rfl) ?_
      refine x_gA hc hR fl_M_17 heq d_M_breakAt_40 (fun v2 heq => ?_)
      refine lv_iload_n hx hb d_M_breakAt_43 rfl (lv_at hl 1 rfl) ?_
      refine lv_iconst (v := 0) hx hb d_M_breakAt_44 (by decide) ?_
      refine x_sZ hc hR hLo heq d_M_breakAt_45 (fun h3 H locs hR hLo heq => ?_)
      refine lv_iinc (k := 1) (v := (x2 + 1)) (lv' := [(2, .int (x2 + 1)), (0, .ref t0)]) hx hb d_M_breakAt_46 hl rfl rfl (by decide) rfl (fun ls hl => ?_)
      refine lv_goto (tgt := 33) hx hb d_M_breakAt_49 rfl ?_
      refine W.widen (k := 0) (n := 0) (by omega) (by omega) ?_
      exact hr33 t0 (x2 + 1) h3 H locs ls hR hLo (lv_sub hl [1, 0] rfl) heq
set_option maxRecDepth 100000 in
set_option maxHeartbeats 4000000 in
theorem c_M_breakAt {l : Launch} {s0 : State} {A0 : Array Value} {G : Gx_t} (hG : G_0 l s0 A0 G) (rm : Room) (hrm : rm_Ok 0 0 0 0 rm) (t0 : Nat) (x1 : Int32) (h0 : Hs_t) (r : Outcome × Hs_t) (heq : f_M_breakAt t0 x1 h0 = some r) : M_X G s0 l y_M_breakAt (.code y_M_breakAt b_M_breakAt 3 (some .boolean)) rm [.ref t0, .int x1] h0 r := by
  refine M_X.of (by decide) hG (fun p e s m below meth c H hc hR => ?_)
  have hx := hc.x
  have hb := hc.b
  obtain ⟨hm1, hm2, hm3, hm4⟩ := id hrm
  have hLo : Lo_k s0 [] := fun _ hq => absurd hq List.not_mem_nil
  have hl := lv_entry ([.ref t0, .int x1]) (n := 3) (Nat.le_of_ble_eq_true rfl)
  rw [lg_entry_eq]
  generalize (lg_sl ([.ref t0, .int x1]) ++ List.replicate (3 - (lg_sl ([.ref t0, .int x1])).length) Slot.unset).toArray = ls at hl ⊢
  have hl : lv_has ls 3 [(0, .ref t0), (1, .int x1)] := hl
  generalize hle : ([] : List Loc) = locs at hLo ⊢
  unfold f_M_breakAt at heq
  refine lv_aload_n hx hb d_M_breakAt_0 rfl (lv_at hl 0 rfl) ?_
  refine lv_iconst (v := 0) hx hb d_M_breakAt_1 (by decide) ?_
  refine x_pV hc hR hLo fl_M_65 (Or.inl rfl) rfl rfl heq d_M_breakAt_2 (fun h1 H locs hR hLo heq => ?_)
  refine lv_iload_n hx hb d_M_breakAt_5 rfl (lv_at hl 1 rfl) ?_
  refine lv_iconst (v := (-1)) hx hb d_M_breakAt_6 (by decide) ?_
  refine lv_icmp_lt (tgt := 16) hx hb d_M_breakAt_7 rfl (fun hq => ?_) (fun hq => ?_)
  · rw [if_pos hq] at heq
    refine W.widen (k := 0) (n := 0) (by omega) (by omega) ?_
    exact k_M_breakAt_b16 hc hrm h1 H locs ls hR hLo (lv_sub hl [] rfl) heq
  · rw [if_neg hq] at heq
    refine lv_iload_n hx hb d_M_breakAt_10 rfl (lv_at hl 1 rfl) ?_
    refine lv_bipush (v := 120) hx hb d_M_breakAt_11 (by decide) ?_
    refine lv_icmp_le (tgt := 18) hx hb d_M_breakAt_13 rfl (fun hq => ?_) (fun hq => ?_)
    · rw [if_pos hq] at heq
      refine lv_iload_n hx hb d_M_breakAt_18 rfl (lv_at hl 1 rfl) ?_
      refine lv_if_lt (tgt := 31) hx hb d_M_breakAt_19 rfl (fun hq => ?_) (fun hq => ?_)
      · rw [if_pos hq] at heq
        refine lv_iconst (v := 0) hx hb d_M_breakAt_31 (by decide) ?_
        refine lv_istore_n (lv' := [(2, .int 0), (0, .ref t0), (1, .int x1)]) hx hb d_M_breakAt_32 rfl hl (by decide) rfl (fun ls hl => ?_)
        refine W.widen (k := 0) (n := 0) (by omega) (by omega) ?_
        exact k_M_breakAt_b33 hc hrm fu_N t0 0 h1 H locs ls hR hLo (lv_sub hl [1, 0] rfl) heq
      · rw [if_neg hq] at heq
        refine lv_aload_n hx hb d_M_breakAt_22 rfl (lv_at hl 0 rfl) ?_
        refine x_gA hc hR fl_M_17 heq d_M_breakAt_23 (fun v1 heq => ?_)
        refine lv_iload_n hx hb d_M_breakAt_26 rfl (lv_at hl 1 rfl) ?_
        refine lv_iconst (v := 1) hx hb d_M_breakAt_27 (by decide) ?_
        refine x_sZ hc hR hLo heq d_M_breakAt_28 (fun h2 H locs hR hLo heq => ?_)
        refine lv_iconst (v := 1) hx hb d_M_breakAt_29 (by decide) ?_
        exact x_zret hc hR hLo ⟨by omega, by omega⟩ heq d_M_breakAt_30
    · rw [if_neg hq] at heq
      refine W.widen (k := 0) (n := 0) (by omega) (by omega) ?_
      exact k_M_breakAt_b16 hc hrm h1 H locs ls hR hLo (lv_sub hl [] rfl) heq
def rm_M_breakAt : Room := { frames := 0, cells := 0, slots := 0, locals := 0 }
theorem rk_M_breakAt : rm_Ok 0 0 0 0 rm_M_breakAt := ⟨Nat.le_refl _, Nat.le_refl _, Nat.le_refl _, Nat.le_refl _⟩
def f_M_portionLeft_b36 (t0 : Nat) (x1 : Int32) (h0 : Hs_t) : Rs_t := (fd_I [8] 5 h0 t0).bind fun v6 => re_I (x1 - v6) h0
def f_M_portionLeft_b30 (r5 : Nat → Int32 → Hs_t → Rs_t) (t0 : Nat) (x1 : Int32) (h0 : Hs_t) : Rs_t := r5 t0 (x1 + 1) h0
def f_M_portionLeft_b5 : Nat → Nat → Int32 → Hs_t → Rs_t
  | 0, _, _, _ => none
  | n + 1, t0, x1, h0 => (fd_I [8] 4 h0 t0).bind fun v2 => if v2 ≤ x1 then (f_M_portionLeft_b36 t0 x1 h0) else ((fd_I [8] 5 h0 t0).bind fun v3 => if x1 = v3 then (f_M_portionLeft_b30 (f_M_portionLeft_b5 n) t0 x1 h0) else ((fd_A [8] 2 h0 t0).bind fun v4 => (ar_Z h0 v4 x1).bind fun v5 => if v5 = 0 then (f_M_portionLeft_b30 (f_M_portionLeft_b5 n) t0 x1 h0) else (f_M_portionLeft_b36 t0 x1 h0)))
def f_M_portionLeft (t0 : Nat) (h0 : Hs_t) : Rs_t := (fd_I [8] 5 h0 t0).bind fun v1 => f_M_portionLeft_b5 fu_N t0 v1 h0
set_option maxRecDepth 100000 in
set_option maxHeartbeats 4000000 in
theorem k_M_portionLeft_b36 {p : Program} {l : Launch} {e : Env} {s : State} {m : MethodId} {args : Array Value} {below : List Frame} {meth : Method} {c : Code} {s0 : State} {A0 : Array Value} {G : Gx_t} {r : Outcome × Hs_t} {rm : Room} (hc : Cx_t p s m meth c s0 A0 l G y_M_portionLeft b_M_portionLeft 2 (some .int) []) (hrm : rm_Ok 0 0 0 0 rm) : ∀ (t0 : Nat) (x1 : Int32) (h0 : Hs_t) (H : Heap) (locs : List Loc) (ls : Array Slot), Rp_h G s0.heap h0 H → Lo_k s0 locs → lv_has ls 2 [(0, .ref t0), (1, .int x1)] → f_M_portionLeft_b36 t0 x1 h0 = some r → W p l e rm s m args below meth c H locs 0 0 (xq_MQ G s0 below r s rm.cells rm.slots) (F0 m 36 ls []) := by
  have hx := hc.x
  have hb := hc.b
  obtain ⟨hm1, hm2, hm3, hm4⟩ := id hrm
  intro t0 x1 h0 H locs ls hR hLo hl heq
  unfold f_M_portionLeft_b36 at heq
  refine lv_iload_n hx hb d_M_portionLeft_36 rfl (lv_at hl 1 rfl) ?_
  refine lv_aload_n hx hb d_M_portionLeft_37 rfl (lv_at hl 0 rfl) ?_
  refine x_gI hc hR fl_M_72 heq d_M_portionLeft_38 (fun v6 heq => ?_)
  refine lv_isub hx hb d_M_portionLeft_41 ?_
  exact x_iret hc hR hLo ⟨by omega, by omega⟩ heq d_M_portionLeft_42
set_option maxRecDepth 100000 in
set_option maxHeartbeats 4000000 in
theorem k_M_portionLeft_b30 {p : Program} {l : Launch} {e : Env} {s : State} {m : MethodId} {args : Array Value} {below : List Frame} {meth : Method} {c : Code} {s0 : State} {A0 : Array Value} {G : Gx_t} {r : Outcome × Hs_t} {rm : Room} (r5 : Nat → Int32 → Hs_t → Rs_t) (hc : Cx_t p s m meth c s0 A0 l G y_M_portionLeft b_M_portionLeft 2 (some .int) []) (hrm : rm_Ok 0 0 0 0 rm) (hr5 : ∀ (t0 : Nat) (x1 : Int32) (h0 : Hs_t) (H : Heap) (locs : List Loc) (ls : Array Slot), Rp_h G s0.heap h0 H → Lo_k s0 locs → lv_has ls 2 [(0, .ref t0), (1, .int x1)] → r5 t0 x1 h0 = some r → W p l e rm s m args below meth c H locs 0 0 (xq_MQ G s0 below r s rm.cells rm.slots) (F0 m 5 ls [])) : ∀ (t0 : Nat) (x1 : Int32) (h0 : Hs_t) (H : Heap) (locs : List Loc) (ls : Array Slot), Rp_h G s0.heap h0 H → Lo_k s0 locs → lv_has ls 2 [(0, .ref t0), (1, .int x1)] → f_M_portionLeft_b30 r5 t0 x1 h0 = some r → W p l e rm s m args below meth c H locs 0 0 (xq_MQ G s0 below r s rm.cells rm.slots) (F0 m 30 ls []) := by
  have hx := hc.x
  have hb := hc.b
  obtain ⟨hm1, hm2, hm3, hm4⟩ := id hrm
  intro t0 x1 h0 H locs ls hR hLo hl heq
  unfold f_M_portionLeft_b30 at heq
  refine lv_iinc (k := 1) (v := (x1 + 1)) (lv' := [(1, .int (x1 + 1)), (0, .ref t0)]) hx hb d_M_portionLeft_30 hl rfl rfl (by decide) rfl (fun ls hl => ?_)
  refine lv_goto (tgt := 5) hx hb d_M_portionLeft_33 rfl ?_
  refine W.widen (k := 0) (n := 0) (by omega) (by omega) ?_
  exact hr5 t0 (x1 + 1) h0 H locs ls hR hLo (lv_sub hl [1, 0] rfl) heq
set_option maxRecDepth 100000 in
set_option maxHeartbeats 4000000 in
theorem k_M_portionLeft_b5 {p : Program} {l : Launch} {e : Env} {s : State} {m : MethodId} {args : Array Value} {below : List Frame} {meth : Method} {c : Code} {s0 : State} {A0 : Array Value} {G : Gx_t} {r : Outcome × Hs_t} {rm : Room} (hc : Cx_t p s m meth c s0 A0 l G y_M_portionLeft b_M_portionLeft 2 (some .int) []) (hrm : rm_Ok 0 0 0 0 rm) : ∀ (n : Nat) (t0 : Nat) (x1 : Int32) (h0 : Hs_t) (H : Heap) (locs : List Loc) (ls : Array Slot), Rp_h G s0.heap h0 H → Lo_k s0 locs → lv_has ls 2 [(0, .ref t0), (1, .int x1)] → f_M_portionLeft_b5 n t0 x1 h0 = some r → W p l e rm s m args below meth c H locs 0 0 (xq_MQ G s0 below r s rm.cells rm.slots) (F0 m 5 ls []) := by
  have hx := hc.x
  have hb := hc.b
  obtain ⟨hm1, hm2, hm3, hm4⟩ := id hrm
  intro n
  induction n with
  | zero =>
    intro t0 x1 h0 H locs ls hR hLo hl heq
    unfold f_M_portionLeft_b5 at heq
    cases heq
  | succ n hr5 =>
    intro t0 x1 h0 H locs ls hR hLo hl heq
    unfold f_M_portionLeft_b5 at heq
    refine lv_iload_n hx hb d_M_portionLeft_5 rfl (lv_at hl 1 rfl) ?_
    refine lv_aload_n hx hb d_M_portionLeft_6 rfl (lv_at hl 0 rfl) ?_
    refine x_gI hc hR fl_M_69 heq d_M_portionLeft_7 (fun v2 heq => ?_)
    refine lv_icmp_ge (tgt := 36) hx hb d_M_portionLeft_10 rfl (fun hq => ?_) (fun hq => ?_)
    · rw [if_pos hq] at heq
      refine W.widen (k := 0) (n := 0) (by omega) (by omega) ?_
      exact k_M_portionLeft_b36 hc hrm t0 x1 h0 H locs ls hR hLo (lv_sub hl [0, 1] rfl) heq
    · rw [if_neg hq] at heq
      refine lv_iload_n hx hb d_M_portionLeft_13 rfl (lv_at hl 1 rfl) ?_
      refine lv_aload_n hx hb d_M_portionLeft_14 rfl (lv_at hl 0 rfl) ?_
      refine x_gI hc hR fl_M_72 heq d_M_portionLeft_15 (fun v3 heq => ?_)
      refine lv_icmp_eq (tgt := 30) hx hb d_M_portionLeft_18 rfl (fun hq => ?_) (fun hq => ?_)
      · rw [if_pos hq] at heq
        refine W.widen (k := 0) (n := 0) (by omega) (by omega) ?_
        exact k_M_portionLeft_b30 _ hc hrm hr5 t0 x1 h0 H locs ls hR hLo (lv_sub hl [0, 1] rfl) heq
      · rw [if_neg hq] at heq
        refine lv_aload_n hx hb d_M_portionLeft_21 rfl (lv_at hl 0 rfl) ?_
        refine x_gA hc hR fl_M_13 heq d_M_portionLeft_22 (fun v4 heq => ?_)
        refine lv_iload_n hx hb d_M_portionLeft_25 rfl (lv_at hl 1 rfl) ?_
        refine x_aZ hc hR heq d_M_portionLeft_26 (fun v5 heq => ?_)
        refine lv_if_ne (tgt := 36) hx hb d_M_portionLeft_27 rfl (fun hq => ?_) (fun hq => ?_)
        · rw [if_neg hq] at heq
          refine W.widen (k := 0) (n := 0) (by omega) (by omega) ?_
          exact k_M_portionLeft_b36 hc hrm t0 x1 h0 H locs ls hR hLo (lv_sub hl [0, 1] rfl) heq
        · rw [if_pos hq] at heq
          refine W.widen (k := 0) (n := 0) (by omega) (by omega) ?_
          exact k_M_portionLeft_b30 _ hc hrm hr5 t0 x1 h0 H locs ls hR hLo (lv_sub hl [0, 1] rfl) heq
set_option maxRecDepth 100000 in
set_option maxHeartbeats 4000000 in
theorem c_M_portionLeft {l : Launch} {s0 : State} {A0 : Array Value} {G : Gx_t} (hG : G_0 l s0 A0 G) (rm : Room) (hrm : rm_Ok 0 0 0 0 rm) (t0 : Nat) (h0 : Hs_t) (r : Outcome × Hs_t) (heq : f_M_portionLeft t0 h0 = some r) : M_X G s0 l y_M_portionLeft (.code y_M_portionLeft b_M_portionLeft 2 (some .int)) rm [.ref t0] h0 r := by
  refine M_X.of (by decide) hG (fun p e s m below meth c H hc hR => ?_)
  have hx := hc.x
  have hb := hc.b
  obtain ⟨hm1, hm2, hm3, hm4⟩ := id hrm
  have hLo : Lo_k s0 [] := fun _ hq => absurd hq List.not_mem_nil
  have hl := lv_entry ([.ref t0]) (n := 2) (Nat.le_of_ble_eq_true rfl)
  rw [lg_entry_eq]
  generalize (lg_sl ([.ref t0]) ++ List.replicate (2 - (lg_sl ([.ref t0])).length) Slot.unset).toArray = ls at hl ⊢
  have hl : lv_has ls 2 [(0, .ref t0)] := hl
  generalize hle : ([] : List Loc) = locs at hLo ⊢
  unfold f_M_portionLeft at heq
  refine lv_aload_n hx hb d_M_portionLeft_0 rfl (lv_at hl 0 rfl) ?_
  refine x_gI hc hR fl_M_72 heq d_M_portionLeft_1 (fun v1 heq => ?_)
  refine lv_istore_n (lv' := [(1, .int v1), (0, .ref t0)]) hx hb d_M_portionLeft_4 rfl hl (by decide) rfl (fun ls hl => ?_)
  refine W.widen (k := 0) (n := 0) (by omega) (by omega) ?_
  exact k_M_portionLeft_b5 hc hrm fu_N t0 v1 h0 H locs ls hR hLo (lv_sub hl [1, 0] rfl) heq
def rm_M_portionLeft : Room := { frames := 0, cells := 0, slots := 0, locals := 0 }
theorem rk_M_portionLeft : rm_Ok 0 0 0 0 rm_M_portionLeft := ⟨Nat.le_refl _, Nat.le_refl _, Nat.le_refl _, Nat.le_refl _⟩
def f_M_push_b169 (t0 : Nat) (x6 : Int32) (sv0 : Int32) (sv1 : Int32) (sv2 : Nat) (h0 : Hs_t) : Rs_t := (as_I h0 sv2 sv1 sv0).bind fun h4 => (fd_A [8] 10 h4 t0).bind fun v8 => (fd_A [8] 9 h4 t0).bind fun v9 => (ar_I h4 v9 x6).bind fun v10 => (as_I h4 v8 x6 v10).bind fun h5 => (fd_A [8] 11 h5 t0).bind fun v11 => (as_Z h5 v11 x6 0).bind fun h6 => (fd_A [8] 12 h6 t0).bind fun v12 => (as_Z h6 v12 x6 0).bind fun h7 => (fd_A [8] 14 h7 t0).bind fun v13 => (as_I h7 v13 x6 0).bind fun h8 => (fd_A [8] 15 h8 t0).bind fun v14 => (as_I h8 v14 x6 0).bind fun h9 => (fd_A [8] 16 h9 t0).bind fun v15 => (as_Z h9 v15 x6 0).bind fun h10 => (fd_I [8] 6 h10 t0).bind fun v16 => (pt_V [8] 6 h10 t0 (.int (v16 + 1))).bind fun h11 => re_I x6 h11
def f_M_push_b119 (t0 : Nat) (x1 : Int32) (x2 : Int32) (sv0 : Int32) (sv1 : Nat) (h0 : Hs_t) : Rs_t := (pt_V [8] 0 h0 sv1 (.int sv0)).bind fun h1 => (fd_I [8] 0 h1 t0).bind fun v3 => if v3 ≤ 0 then ((fd_I [8] 6 h1 t0).bind fun v4 => (fd_A [8] 7 h1 t0).bind fun v5 => (as_I h1 v5 v4 x1).bind fun h2 => (fd_A [8] 8 h2 t0).bind fun v6 => (as_I h2 v6 v4 x2).bind fun h3 => (fd_A [8] 9 h3 t0).bind fun v7 => if x1 = 3 then (f_M_push_b169 t0 v4 x2 v4 v7 h3) else (f_M_push_b169 t0 v4 0 v4 v7 h3)) else (re_I 0 h1)
def f_M_push_b114 (t0 : Nat) (x1 : Int32) (x2 : Int32) (sv0 : Nat) (h0 : Hs_t) : Rs_t := f_M_push_b119 t0 x1 x2 2 sv0 h0
def f_M_push_b87 (t0 : Nat) (x1 : Int32) (x2 : Int32) (sv0 : Int32) (h0 : Hs_t) : Rs_t := if sv0 = 0 then (f_M_push_b119 t0 x1 x2 1 t0 h0) else ((fd_I [8] 21 h0 t0).bind fun v1 => if v1 = 0 then ((fd_I [8] 6 h0 t0).bind fun v2 => if v2 = 5 then (f_M_push_b114 t0 x1 x2 t0 h0) else (f_M_push_b119 t0 x1 x2 0 t0 h0)) else (f_M_push_b114 t0 x1 x2 t0 h0))
def f_M_push_b86 (t0 : Nat) (x1 : Int32) (x2 : Int32) (h0 : Hs_t) : Rs_t := f_M_push_b87 t0 x1 x2 0 h0
def f_M_push_b59 (t0 : Nat) (x1 : Int32) (x2 : Int32) (x3 : Int32) (sv0 : Int32) (h0 : Hs_t) : Rs_t := if x1 < 1 then (f_M_push_b86 t0 x1 x2 h0) else (if 5 < x1 then (f_M_push_b86 t0 x1 x2 h0) else (if x2 < x3 then (f_M_push_b86 t0 x1 x2 h0) else (if sv0 < x2 then (f_M_push_b86 t0 x1 x2 h0) else (f_M_push_b87 t0 x1 x2 1 h0))))
def f_M_push_b15 (t0 : Nat) (x1 : Int32) (x2 : Int32) (sv0 : Int32) (h0 : Hs_t) : Rs_t := if x1 = 1 then (f_M_push_b59 t0 x1 x2 sv0 16 h0) else (if x1 = 2 then (f_M_push_b59 t0 x1 x2 sv0 8 h0) else (if x1 = 3 then (f_M_push_b59 t0 x1 x2 sv0 200 h0) else (if x1 = 4 then (f_M_push_b59 t0 x1 x2 sv0 255 h0) else (f_M_push_b59 t0 x1 x2 sv0 0 h0))))
def f_M_push_b10 (t0 : Nat) (x1 : Int32) (x2 : Int32) (h0 : Hs_t) : Rs_t := f_M_push_b15 t0 x1 x2 1 h0
def f_M_push (t0 : Nat) (x1 : Int32) (x2 : Int32) (h0 : Hs_t) : Rs_t := if x1 = 1 then (f_M_push_b10 t0 x1 x2 h0) else (if x1 = 2 then (f_M_push_b10 t0 x1 x2 h0) else (f_M_push_b15 t0 x1 x2 0 h0))
set_option maxRecDepth 100000 in
set_option maxHeartbeats 4000000 in
theorem k_M_push_b169 {p : Program} {l : Launch} {e : Env} {s : State} {m : MethodId} {args : Array Value} {below : List Frame} {meth : Method} {c : Code} {s0 : State} {A0 : Array Value} {G : Gx_t} {r : Outcome × Hs_t} {rm : Room} (hc : Cx_t p s m meth c s0 A0 l G y_M_push b_M_push 7 (some .int) []) (hrm : rm_Ok 0 0 0 0 rm) : ∀ (t0 : Nat) (x6 : Int32) (sv0 : Int32) (sv1 : Int32) (sv2 : Nat) (h0 : Hs_t) (H : Heap) (locs : List Loc) (ls : Array Slot), Rp_h G s0.heap h0 H → Lo_k s0 locs → lv_has ls 7 [(0, .ref t0), (6, .int x6)] → f_M_push_b169 t0 x6 sv0 sv1 sv2 h0 = some r → W p l e rm s m args below meth c H locs 0 0 (xq_MQ G s0 below r s rm.cells rm.slots) (F0 m 169 ls [.int sv0, .int sv1, .ref sv2]) := by
  have hx := hc.x
  have hb := hc.b
  obtain ⟨hm1, hm2, hm3, hm4⟩ := id hrm
  intro t0 x6 sv0 sv1 sv2 h0 H locs ls hR hLo hl heq
  unfold f_M_push_b169 at heq
  refine x_sI hc hR hLo heq d_M_push_169 (fun h4 H locs hR hLo heq => ?_)
  refine lv_aload_n hx hb d_M_push_170 rfl (lv_at hl 0 rfl) ?_
  refine x_gA hc hR fl_M_29 heq d_M_push_171 (fun v8 heq => ?_)
  refine lv_iload hx hb d_M_push_174 (lv_at hl 1 rfl) ?_
  refine lv_aload_n hx hb d_M_push_176 rfl (lv_at hl 0 rfl) ?_
  refine x_gA hc hR fl_M_26 heq d_M_push_177 (fun v9 heq => ?_)
  refine lv_iload hx hb d_M_push_180 (lv_at hl 1 rfl) ?_
  refine x_aI hc hR heq d_M_push_182 (fun v10 heq => ?_)
  refine x_sI hc hR hLo heq d_M_push_183 (fun h5 H locs hR hLo heq => ?_)
  refine lv_aload_n hx hb d_M_push_184 rfl (lv_at hl 0 rfl) ?_
  refine x_gA hc hR fl_M_32 heq d_M_push_185 (fun v11 heq => ?_)
  refine lv_iload hx hb d_M_push_188 (lv_at hl 1 rfl) ?_
  refine lv_iconst (v := 0) hx hb d_M_push_190 (by decide) ?_
  refine x_sZ hc hR hLo heq d_M_push_191 (fun h6 H locs hR hLo heq => ?_)
  refine lv_aload_n hx hb d_M_push_192 rfl (lv_at hl 0 rfl) ?_
  refine x_gA hc hR fl_M_35 heq d_M_push_193 (fun v12 heq => ?_)
  refine lv_iload hx hb d_M_push_196 (lv_at hl 1 rfl) ?_
  refine lv_iconst (v := 0) hx hb d_M_push_198 (by decide) ?_
  refine x_sZ hc hR hLo heq d_M_push_199 (fun h7 H locs hR hLo heq => ?_)
  refine lv_aload_n hx hb d_M_push_200 rfl (lv_at hl 0 rfl) ?_
  refine x_gA hc hR fl_M_41 heq d_M_push_201 (fun v13 heq => ?_)
  refine lv_iload hx hb d_M_push_204 (lv_at hl 1 rfl) ?_
  refine lv_iconst (v := 0) hx hb d_M_push_206 (by decide) ?_
  refine x_sI hc hR hLo heq d_M_push_207 (fun h8 H locs hR hLo heq => ?_)
  refine lv_aload_n hx hb d_M_push_208 rfl (lv_at hl 0 rfl) ?_
  refine x_gA hc hR fl_M_44 heq d_M_push_209 (fun v14 heq => ?_)
  refine lv_iload hx hb d_M_push_212 (lv_at hl 1 rfl) ?_
  refine lv_iconst (v := 0) hx hb d_M_push_214 (by decide) ?_
  refine x_sI hc hR hLo heq d_M_push_215 (fun h9 H locs hR hLo heq => ?_)
  refine lv_aload_n hx hb d_M_push_216 rfl (lv_at hl 0 rfl) ?_
  refine x_gA hc hR fl_M_47 heq d_M_push_217 (fun v15 heq => ?_)
  refine lv_iload hx hb d_M_push_220 (lv_at hl 1 rfl) ?_
  refine lv_iconst (v := 0) hx hb d_M_push_222 (by decide) ?_
  refine x_sZ hc hR hLo heq d_M_push_223 (fun h10 H locs hR hLo heq => ?_)
  refine lv_aload_n hx hb d_M_push_224 rfl (lv_at hl 0 rfl) ?_
  refine lv_dup hx hb d_M_push_225 rfl ?_
  refine x_gI hc hR fl_M_79 heq d_M_push_226 (fun v16 heq => ?_)
  refine lv_iconst (v := 1) hx hb d_M_push_229 (by decide) ?_
  refine lv_iadd hx hb d_M_push_230 ?_
  refine x_pV hc hR hLo fl_M_79 (Or.inl rfl) rfl rfl heq d_M_push_231 (fun h11 H locs hR hLo heq => ?_)
  refine lv_iload hx hb d_M_push_234 (lv_at hl 1 rfl) ?_
  exact x_iret hc hR hLo ⟨by omega, by omega⟩ heq d_M_push_236
set_option maxRecDepth 100000 in
set_option maxHeartbeats 4000000 in
theorem k_M_push_b119 {p : Program} {l : Launch} {e : Env} {s : State} {m : MethodId} {args : Array Value} {below : List Frame} {meth : Method} {c : Code} {s0 : State} {A0 : Array Value} {G : Gx_t} {r : Outcome × Hs_t} {rm : Room} (hc : Cx_t p s m meth c s0 A0 l G y_M_push b_M_push 7 (some .int) []) (hrm : rm_Ok 0 0 0 0 rm) : ∀ (t0 : Nat) (x1 : Int32) (x2 : Int32) (sv0 : Int32) (sv1 : Nat) (h0 : Hs_t) (H : Heap) (locs : List Loc) (ls : Array Slot), Rp_h G s0.heap h0 H → Lo_k s0 locs → lv_has ls 7 [(0, .ref t0), (1, .int x1), (2, .int x2)] → f_M_push_b119 t0 x1 x2 sv0 sv1 h0 = some r → W p l e rm s m args below meth c H locs 0 0 (xq_MQ G s0 below r s rm.cells rm.slots) (F0 m 119 ls [.int sv0, .ref sv1]) := by
  have hx := hc.x
  have hb := hc.b
  obtain ⟨hm1, hm2, hm3, hm4⟩ := id hrm
  intro t0 x1 x2 sv0 sv1 h0 H locs ls hR hLo hl heq
  unfold f_M_push_b119 at heq
  refine x_pV hc hR hLo fl_M_65 (Or.inl rfl) rfl rfl heq d_M_push_119 (fun h1 H locs hR hLo heq => ?_)
  refine lv_aload_n hx hb d_M_push_122 rfl (lv_at hl 0 rfl) ?_
  refine x_gI hc hR fl_M_65 heq d_M_push_123 (fun v3 heq => ?_)
  refine lv_if_le (tgt := 131) hx hb d_M_push_126 rfl (fun hq => ?_) (fun hq => ?_)
  · rw [if_pos hq] at heq
    refine lv_aload_n hx hb d_M_push_131 rfl (lv_at hl 0 rfl) ?_
    refine x_gI hc hR fl_M_79 heq d_M_push_132 (fun v4 heq => ?_)
    refine lv_istore (lv' := [(6, .int v4), (0, .ref t0), (1, .int x1), (2, .int x2)]) hx hb d_M_push_135 hl (by decide) rfl (fun ls hl => ?_)
    refine lv_aload_n hx hb d_M_push_137 rfl (lv_at hl 1 rfl) ?_
    refine x_gA hc hR fl_M_20 heq d_M_push_138 (fun v5 heq => ?_)
    refine lv_iload hx hb d_M_push_141 (lv_at hl 0 rfl) ?_
    refine lv_iload_n hx hb d_M_push_143 rfl (lv_at hl 2 rfl) ?_
    refine x_sI hc hR hLo heq d_M_push_144 (fun h2 H locs hR hLo heq => ?_)
    refine lv_aload_n hx hb d_M_push_145 rfl (lv_at hl 1 rfl) ?_
    refine x_gA hc hR fl_M_23 heq d_M_push_146 (fun v6 heq => ?_)
    refine lv_iload hx hb d_M_push_149 (lv_at hl 0 rfl) ?_
    refine lv_iload_n hx hb d_M_push_151 rfl (lv_at hl 3 rfl) ?_
    refine x_sI hc hR hLo heq d_M_push_152 (fun h3 H locs hR hLo heq => ?_)
    refine lv_aload_n hx hb d_M_push_153 rfl (lv_at hl 1 rfl) ?_
    refine x_gA hc hR fl_M_26 heq d_M_push_154 (fun v7 heq => ?_)
    refine lv_iload hx hb d_M_push_157 (lv_at hl 0 rfl) ?_
    refine lv_iload_n hx hb d_M_push_159 rfl (lv_at hl 2 rfl) ?_
    refine lv_iconst (v := 3) hx hb d_M_push_160 (by decide) ?_
    refine lv_icmp_ne (tgt := 168) hx hb d_M_push_161 rfl (fun hq => ?_) (fun hq => ?_)
    · rw [if_neg hq] at heq
      refine lv_iconst (v := 0) hx hb d_M_push_168 (by decide) ?_
      refine W.widen (k := 0) (n := 0) (by omega) (by omega) ?_
      exact k_M_push_b169 hc hrm t0 v4 0 v4 v7 h3 H locs ls hR hLo (lv_sub hl [1, 0] rfl) heq
    · rw [if_pos hq] at heq
      refine lv_iload_n hx hb d_M_push_164 rfl (lv_at hl 3 rfl) ?_
      refine lv_goto (tgt := 169) hx hb d_M_push_165 rfl ?_
      refine W.widen (k := 0) (n := 0) (by omega) (by omega) ?_
      exact k_M_push_b169 hc hrm t0 v4 x2 v4 v7 h3 H locs ls hR hLo (lv_sub hl [1, 0] rfl) heq
  · rw [if_neg hq] at heq
    refine lv_iconst (v := 0) hx hb d_M_push_129 (by decide) ?_
    exact x_iret hc hR hLo ⟨by omega, by omega⟩ heq d_M_push_130
set_option maxRecDepth 100000 in
set_option maxHeartbeats 4000000 in
theorem k_M_push_b114 {p : Program} {l : Launch} {e : Env} {s : State} {m : MethodId} {args : Array Value} {below : List Frame} {meth : Method} {c : Code} {s0 : State} {A0 : Array Value} {G : Gx_t} {r : Outcome × Hs_t} {rm : Room} (hc : Cx_t p s m meth c s0 A0 l G y_M_push b_M_push 7 (some .int) []) (hrm : rm_Ok 0 0 0 0 rm) : ∀ (t0 : Nat) (x1 : Int32) (x2 : Int32) (sv0 : Nat) (h0 : Hs_t) (H : Heap) (locs : List Loc) (ls : Array Slot), Rp_h G s0.heap h0 H → Lo_k s0 locs → lv_has ls 7 [(0, .ref t0), (1, .int x1), (2, .int x2)] → f_M_push_b114 t0 x1 x2 sv0 h0 = some r → W p l e rm s m args below meth c H locs 0 0 (xq_MQ G s0 below r s rm.cells rm.slots) (F0 m 114 ls [.ref sv0]) := by
  have hx := hc.x
  have hb := hc.b
  obtain ⟨hm1, hm2, hm3, hm4⟩ := id hrm
  intro t0 x1 x2 sv0 h0 H locs ls hR hLo hl heq
  unfold f_M_push_b114 at heq
  refine lv_iconst (v := 2) hx hb d_M_push_114 (by decide) ?_
  refine lv_goto (tgt := 119) hx hb d_M_push_115 rfl ?_
  refine W.widen (k := 0) (n := 0) (by omega) (by omega) ?_
  exact k_M_push_b119 hc hrm t0 x1 x2 2 sv0 h0 H locs ls hR hLo (lv_sub hl [0, 1, 2] rfl) heq
set_option maxRecDepth 100000 in
set_option maxHeartbeats 4000000 in
theorem k_M_push_b87 {p : Program} {l : Launch} {e : Env} {s : State} {m : MethodId} {args : Array Value} {below : List Frame} {meth : Method} {c : Code} {s0 : State} {A0 : Array Value} {G : Gx_t} {r : Outcome × Hs_t} {rm : Room} (hc : Cx_t p s m meth c s0 A0 l G y_M_push b_M_push 7 (some .int) []) (hrm : rm_Ok 0 0 0 0 rm) : ∀ (t0 : Nat) (x1 : Int32) (x2 : Int32) (sv0 : Int32) (h0 : Hs_t) (H : Heap) (locs : List Loc) (ls : Array Slot), Rp_h G s0.heap h0 H → Lo_k s0 locs → lv_has ls 7 [(0, .ref t0), (1, .int x1), (2, .int x2)] → f_M_push_b87 t0 x1 x2 sv0 h0 = some r → W p l e rm s m args below meth c H locs 0 0 (xq_MQ G s0 below r s rm.cells rm.slots) (F0 m 87 ls [.int sv0]) := by
  have hx := hc.x
  have hb := hc.b
  obtain ⟨hm1, hm2, hm3, hm4⟩ := id hrm
  intro t0 x1 x2 sv0 h0 H locs ls hR hLo hl heq
  unfold f_M_push_b87 at heq
  refine lv_istore (lv' := [(5, .int sv0), (0, .ref t0), (1, .int x1), (2, .int x2)]) hx hb d_M_push_87 hl (by decide) rfl (fun ls hl => ?_)
  refine lv_aload_n hx hb d_M_push_89 rfl (lv_at hl 1 rfl) ?_
  refine lv_iload hx hb d_M_push_90 (lv_at hl 0 rfl) ?_
  refine lv_if_ne (tgt := 99) hx hb d_M_push_92 rfl (fun hq => ?_) (fun hq => ?_)
  · rw [if_neg hq] at heq
    refine lv_aload_n hx hb d_M_push_99 rfl (lv_at hl 1 rfl) ?_
    refine x_gI hc hR fl_M_75 heq d_M_push_100 (fun v1 heq => ?_)
    refine lv_if_ne (tgt := 114) hx hb d_M_push_103 rfl (fun hq => ?_) (fun hq => ?_)
    · rw [if_neg hq] at heq
      refine W.widen (k := 0) (n := 0) (by omega) (by omega) ?_
      exact k_M_push_b114 hc hrm t0 x1 x2 t0 h0 H locs ls hR hLo (lv_sub hl [1, 2, 3] rfl) heq
    · rw [if_pos hq] at heq
      refine lv_aload_n hx hb d_M_push_106 rfl (lv_at hl 1 rfl) ?_
      refine x_gI hc hR fl_M_79 heq d_M_push_107 (fun v2 heq => ?_)
      refine lv_iconst (v := 5) hx hb d_M_push_110 (by decide) ?_
      refine lv_icmp_ne (tgt := 118) hx hb d_M_push_111 rfl (fun hq => ?_) (fun hq => ?_)
      · rw [if_neg hq] at heq
        refine lv_iconst (v := 0) hx hb d_M_push_118 (by decide) ?_
        refine W.widen (k := 0) (n := 0) (by omega) (by omega) ?_
        exact k_M_push_b119 hc hrm t0 x1 x2 0 t0 h0 H locs ls hR hLo (lv_sub hl [1, 2, 3] rfl) heq
      · rw [if_pos hq] at heq
        refine W.widen (k := 0) (n := 0) (by omega) (by omega) ?_
        exact k_M_push_b114 hc hrm t0 x1 x2 t0 h0 H locs ls hR hLo (lv_sub hl [1, 2, 3] rfl) heq
  · rw [if_pos hq] at heq
    refine lv_iconst (v := 1) hx hb d_M_push_95 (by decide) ?_
    refine lv_goto (tgt := 119) hx hb d_M_push_96 rfl ?_
    refine W.widen (k := 0) (n := 0) (by omega) (by omega) ?_
    exact k_M_push_b119 hc hrm t0 x1 x2 1 t0 h0 H locs ls hR hLo (lv_sub hl [1, 2, 3] rfl) heq
set_option maxRecDepth 100000 in
set_option maxHeartbeats 4000000 in
theorem k_M_push_b86 {p : Program} {l : Launch} {e : Env} {s : State} {m : MethodId} {args : Array Value} {below : List Frame} {meth : Method} {c : Code} {s0 : State} {A0 : Array Value} {G : Gx_t} {r : Outcome × Hs_t} {rm : Room} (hc : Cx_t p s m meth c s0 A0 l G y_M_push b_M_push 7 (some .int) []) (hrm : rm_Ok 0 0 0 0 rm) : ∀ (t0 : Nat) (x1 : Int32) (x2 : Int32) (h0 : Hs_t) (H : Heap) (locs : List Loc) (ls : Array Slot), Rp_h G s0.heap h0 H → Lo_k s0 locs → lv_has ls 7 [(0, .ref t0), (1, .int x1), (2, .int x2)] → f_M_push_b86 t0 x1 x2 h0 = some r → W p l e rm s m args below meth c H locs 0 0 (xq_MQ G s0 below r s rm.cells rm.slots) (F0 m 86 ls []) := by
  have hx := hc.x
  have hb := hc.b
  obtain ⟨hm1, hm2, hm3, hm4⟩ := id hrm
  intro t0 x1 x2 h0 H locs ls hR hLo hl heq
  unfold f_M_push_b86 at heq
  refine lv_iconst (v := 0) hx hb d_M_push_86 (by decide) ?_
  refine W.widen (k := 0) (n := 0) (by omega) (by omega) ?_
  exact k_M_push_b87 hc hrm t0 x1 x2 0 h0 H locs ls hR hLo (lv_sub hl [0, 1, 2] rfl) heq
set_option maxRecDepth 100000 in
set_option maxHeartbeats 4000000 in
theorem k_M_push_b59 {p : Program} {l : Launch} {e : Env} {s : State} {m : MethodId} {args : Array Value} {below : List Frame} {meth : Method} {c : Code} {s0 : State} {A0 : Array Value} {G : Gx_t} {r : Outcome × Hs_t} {rm : Room} (hc : Cx_t p s m meth c s0 A0 l G y_M_push b_M_push 7 (some .int) []) (hrm : rm_Ok 0 0 0 0 rm) : ∀ (t0 : Nat) (x1 : Int32) (x2 : Int32) (x3 : Int32) (sv0 : Int32) (h0 : Hs_t) (H : Heap) (locs : List Loc) (ls : Array Slot), Rp_h G s0.heap h0 H → Lo_k s0 locs → lv_has ls 7 [(0, .ref t0), (1, .int x1), (2, .int x2), (3, .int x3)] → f_M_push_b59 t0 x1 x2 x3 sv0 h0 = some r → W p l e rm s m args below meth c H locs 0 0 (xq_MQ G s0 below r s rm.cells rm.slots) (F0 m 59 ls [.int sv0]) := by
  have hx := hc.x
  have hb := hc.b
  obtain ⟨hm1, hm2, hm3, hm4⟩ := id hrm
  intro t0 x1 x2 x3 sv0 h0 H locs ls hR hLo hl heq
  unfold f_M_push_b59 at heq
  refine lv_istore (lv' := [(4, .int sv0), (0, .ref t0), (1, .int x1), (2, .int x2), (3, .int x3)]) hx hb d_M_push_59 hl (by decide) rfl (fun ls hl => ?_)
  refine lv_iload_n hx hb d_M_push_61 rfl (lv_at hl 2 rfl) ?_
  refine lv_iconst (v := 1) hx hb d_M_push_62 (by decide) ?_
  refine lv_icmp_lt (tgt := 86) hx hb d_M_push_63 rfl (fun hq => ?_) (fun hq => ?_)
  · rw [if_pos hq] at heq
    refine W.widen (k := 0) (n := 0) (by omega) (by omega) ?_
    exact k_M_push_b86 hc hrm t0 x1 x2 h0 H locs ls hR hLo (lv_sub hl [1, 2, 3] rfl) heq
  · rw [if_neg hq] at heq
    refine lv_iload_n hx hb d_M_push_66 rfl (lv_at hl 2 rfl) ?_
    refine lv_iconst (v := 5) hx hb d_M_push_67 (by decide) ?_
    refine lv_icmp_gt (tgt := 86) hx hb d_M_push_68 rfl (fun hq => ?_) (fun hq => ?_)
    · rw [if_pos hq] at heq
      refine W.widen (k := 0) (n := 0) (by omega) (by omega) ?_
      exact k_M_push_b86 hc hrm t0 x1 x2 h0 H locs ls hR hLo (lv_sub hl [1, 2, 3] rfl) heq
    · rw [if_neg hq] at heq
      refine lv_iload_n hx hb d_M_push_71 rfl (lv_at hl 3 rfl) ?_
      refine lv_iload_n hx hb d_M_push_72 rfl (lv_at hl 4 rfl) ?_
      refine lv_icmp_lt (tgt := 86) hx hb d_M_push_73 rfl (fun hq => ?_) (fun hq => ?_)
      · rw [if_pos hq] at heq
        refine W.widen (k := 0) (n := 0) (by omega) (by omega) ?_
        exact k_M_push_b86 hc hrm t0 x1 x2 h0 H locs ls hR hLo (lv_sub hl [1, 2, 3] rfl) heq
      · rw [if_neg hq] at heq
        refine lv_iload_n hx hb d_M_push_76 rfl (lv_at hl 3 rfl) ?_
        refine lv_iload hx hb d_M_push_77 (lv_at hl 0 rfl) ?_
        refine lv_icmp_gt (tgt := 86) hx hb d_M_push_79 rfl (fun hq => ?_) (fun hq => ?_)
        · rw [if_pos hq] at heq
          refine W.widen (k := 0) (n := 0) (by omega) (by omega) ?_
          exact k_M_push_b86 hc hrm t0 x1 x2 h0 H locs ls hR hLo (lv_sub hl [1, 2, 3] rfl) heq
        · rw [if_neg hq] at heq
          refine lv_iconst (v := 1) hx hb d_M_push_82 (by decide) ?_
          refine lv_goto (tgt := 87) hx hb d_M_push_83 rfl ?_
          refine W.widen (k := 0) (n := 0) (by omega) (by omega) ?_
          exact k_M_push_b87 hc hrm t0 x1 x2 1 h0 H locs ls hR hLo (lv_sub hl [1, 2, 3] rfl) heq
set_option maxRecDepth 100000 in
set_option maxHeartbeats 4000000 in
theorem k_M_push_b15 {p : Program} {l : Launch} {e : Env} {s : State} {m : MethodId} {args : Array Value} {below : List Frame} {meth : Method} {c : Code} {s0 : State} {A0 : Array Value} {G : Gx_t} {r : Outcome × Hs_t} {rm : Room} (hc : Cx_t p s m meth c s0 A0 l G y_M_push b_M_push 7 (some .int) []) (hrm : rm_Ok 0 0 0 0 rm) : ∀ (t0 : Nat) (x1 : Int32) (x2 : Int32) (sv0 : Int32) (h0 : Hs_t) (H : Heap) (locs : List Loc) (ls : Array Slot), Rp_h G s0.heap h0 H → Lo_k s0 locs → lv_has ls 7 [(0, .ref t0), (1, .int x1), (2, .int x2)] → f_M_push_b15 t0 x1 x2 sv0 h0 = some r → W p l e rm s m args below meth c H locs 0 0 (xq_MQ G s0 below r s rm.cells rm.slots) (F0 m 15 ls [.int sv0]) := by
  have hx := hc.x
  have hb := hc.b
  obtain ⟨hm1, hm2, hm3, hm4⟩ := id hrm
  intro t0 x1 x2 sv0 h0 H locs ls hR hLo hl heq
  unfold f_M_push_b15 at heq
  refine lv_istore_n (lv' := [(3, .int sv0), (0, .ref t0), (1, .int x1), (2, .int x2)]) hx hb d_M_push_15 rfl hl (by decide) rfl (fun ls hl => ?_)
  refine lv_iload_n hx hb d_M_push_16 rfl (lv_at hl 2 rfl) ?_
  refine lv_iconst (v := 1) hx hb d_M_push_17 (by decide) ?_
  refine lv_icmp_ne (tgt := 26) hx hb d_M_push_18 rfl (fun hq => ?_) (fun hq => ?_)
  · rw [if_neg hq] at heq
    refine lv_iload_n hx hb d_M_push_26 rfl (lv_at hl 2 rfl) ?_
    refine lv_iconst (v := 2) hx hb d_M_push_27 (by decide) ?_
    refine lv_icmp_ne (tgt := 36) hx hb d_M_push_28 rfl (fun hq => ?_) (fun hq => ?_)
    · rw [if_neg hq] at heq
      refine lv_iload_n hx hb d_M_push_36 rfl (lv_at hl 2 rfl) ?_
      refine lv_iconst (v := 3) hx hb d_M_push_37 (by decide) ?_
      refine lv_icmp_ne (tgt := 47) hx hb d_M_push_38 rfl (fun hq => ?_) (fun hq => ?_)
      · rw [if_neg hq] at heq
        refine lv_iload_n hx hb d_M_push_47 rfl (lv_at hl 2 rfl) ?_
        refine lv_iconst (v := 4) hx hb d_M_push_48 (by decide) ?_
        refine lv_icmp_ne (tgt := 58) hx hb d_M_push_49 rfl (fun hq => ?_) (fun hq => ?_)
        · rw [if_neg hq] at heq
          refine lv_iconst (v := 0) hx hb d_M_push_58 (by decide) ?_
          refine W.widen (k := 0) (n := 0) (by omega) (by omega) ?_
          exact k_M_push_b59 hc hrm t0 x1 x2 sv0 0 h0 H locs ls hR hLo (lv_sub hl [1, 2, 3, 0] rfl) heq
        · rw [if_pos hq] at heq
          refine lv_sipush (v := 255) hx hb d_M_push_52 (by decide) ?_
          refine lv_goto (tgt := 59) hx hb d_M_push_55 rfl ?_
          refine W.widen (k := 0) (n := 0) (by omega) (by omega) ?_
          exact k_M_push_b59 hc hrm t0 x1 x2 sv0 255 h0 H locs ls hR hLo (lv_sub hl [1, 2, 3, 0] rfl) heq
      · rw [if_pos hq] at heq
        refine lv_sipush (v := 200) hx hb d_M_push_41 (by decide) ?_
        refine lv_goto (tgt := 59) hx hb d_M_push_44 rfl ?_
        refine W.widen (k := 0) (n := 0) (by omega) (by omega) ?_
        exact k_M_push_b59 hc hrm t0 x1 x2 sv0 200 h0 H locs ls hR hLo (lv_sub hl [1, 2, 3, 0] rfl) heq
    · rw [if_pos hq] at heq
      refine lv_bipush (v := 8) hx hb d_M_push_31 (by decide) ?_
      refine lv_goto (tgt := 59) hx hb d_M_push_33 rfl ?_
      refine W.widen (k := 0) (n := 0) (by omega) (by omega) ?_
      exact k_M_push_b59 hc hrm t0 x1 x2 sv0 8 h0 H locs ls hR hLo (lv_sub hl [1, 2, 3, 0] rfl) heq
  · rw [if_pos hq] at heq
    refine lv_bipush (v := 16) hx hb d_M_push_21 (by decide) ?_
    refine lv_goto (tgt := 59) hx hb d_M_push_23 rfl ?_
    refine W.widen (k := 0) (n := 0) (by omega) (by omega) ?_
    exact k_M_push_b59 hc hrm t0 x1 x2 sv0 16 h0 H locs ls hR hLo (lv_sub hl [1, 2, 3, 0] rfl) heq
set_option maxRecDepth 100000 in
set_option maxHeartbeats 4000000 in
theorem k_M_push_b10 {p : Program} {l : Launch} {e : Env} {s : State} {m : MethodId} {args : Array Value} {below : List Frame} {meth : Method} {c : Code} {s0 : State} {A0 : Array Value} {G : Gx_t} {r : Outcome × Hs_t} {rm : Room} (hc : Cx_t p s m meth c s0 A0 l G y_M_push b_M_push 7 (some .int) []) (hrm : rm_Ok 0 0 0 0 rm) : ∀ (t0 : Nat) (x1 : Int32) (x2 : Int32) (h0 : Hs_t) (H : Heap) (locs : List Loc) (ls : Array Slot), Rp_h G s0.heap h0 H → Lo_k s0 locs → lv_has ls 7 [(0, .ref t0), (1, .int x1), (2, .int x2)] → f_M_push_b10 t0 x1 x2 h0 = some r → W p l e rm s m args below meth c H locs 0 0 (xq_MQ G s0 below r s rm.cells rm.slots) (F0 m 10 ls []) := by
  have hx := hc.x
  have hb := hc.b
  obtain ⟨hm1, hm2, hm3, hm4⟩ := id hrm
  intro t0 x1 x2 h0 H locs ls hR hLo hl heq
  unfold f_M_push_b10 at heq
  refine lv_iconst (v := 1) hx hb d_M_push_10 (by decide) ?_
  refine lv_goto (tgt := 15) hx hb d_M_push_11 rfl ?_
  refine W.widen (k := 0) (n := 0) (by omega) (by omega) ?_
  exact k_M_push_b15 hc hrm t0 x1 x2 1 h0 H locs ls hR hLo (lv_sub hl [0, 1, 2] rfl) heq
set_option maxRecDepth 100000 in
set_option maxHeartbeats 4000000 in
theorem c_M_push {l : Launch} {s0 : State} {A0 : Array Value} {G : Gx_t} (hG : G_0 l s0 A0 G) (rm : Room) (hrm : rm_Ok 0 0 0 0 rm) (t0 : Nat) (x1 : Int32) (x2 : Int32) (h0 : Hs_t) (r : Outcome × Hs_t) (heq : f_M_push t0 x1 x2 h0 = some r) : M_X G s0 l y_M_push (.code y_M_push b_M_push 7 (some .int)) rm [.ref t0, .int x1, .int x2] h0 r := by
  refine M_X.of (by decide) hG (fun p e s m below meth c H hc hR => ?_)
  have hx := hc.x
  have hb := hc.b
  obtain ⟨hm1, hm2, hm3, hm4⟩ := id hrm
  have hLo : Lo_k s0 [] := fun _ hq => absurd hq List.not_mem_nil
  have hl := lv_entry ([.ref t0, .int x1, .int x2]) (n := 7) (Nat.le_of_ble_eq_true rfl)
  rw [lg_entry_eq]
  generalize (lg_sl ([.ref t0, .int x1, .int x2]) ++ List.replicate (7 - (lg_sl ([.ref t0, .int x1, .int x2])).length) Slot.unset).toArray = ls at hl ⊢
  have hl : lv_has ls 7 [(0, .ref t0), (1, .int x1), (2, .int x2)] := hl
  generalize hle : ([] : List Loc) = locs at hLo ⊢
  unfold f_M_push at heq
  refine lv_iload_n hx hb d_M_push_0 rfl (lv_at hl 1 rfl) ?_
  refine lv_iconst (v := 1) hx hb d_M_push_1 (by decide) ?_
  refine lv_icmp_eq (tgt := 10) hx hb d_M_push_2 rfl (fun hq => ?_) (fun hq => ?_)
  · rw [if_pos hq] at heq
    refine W.widen (k := 0) (n := 0) (by omega) (by omega) ?_
    exact k_M_push_b10 hc hrm t0 x1 x2 h0 H locs ls hR hLo (lv_sub hl [0, 1, 2] rfl) heq
  · rw [if_neg hq] at heq
    refine lv_iload_n hx hb d_M_push_5 rfl (lv_at hl 1 rfl) ?_
    refine lv_iconst (v := 2) hx hb d_M_push_6 (by decide) ?_
    refine lv_icmp_ne (tgt := 14) hx hb d_M_push_7 rfl (fun hq => ?_) (fun hq => ?_)
    · rw [if_neg hq] at heq
      refine lv_iconst (v := 0) hx hb d_M_push_14 (by decide) ?_
      refine W.widen (k := 0) (n := 0) (by omega) (by omega) ?_
      exact k_M_push_b15 hc hrm t0 x1 x2 0 h0 H locs ls hR hLo (lv_sub hl [0, 1, 2] rfl) heq
    · rw [if_pos hq] at heq
      refine W.widen (k := 0) (n := 0) (by omega) (by omega) ?_
      exact k_M_push_b10 hc hrm t0 x1 x2 h0 H locs ls hR hLo (lv_sub hl [0, 1, 2] rfl) heq
def rm_M_push : Room := { frames := 0, cells := 0, slots := 0, locals := 0 }
theorem rk_M_push : rm_Ok 0 0 0 0 rm_M_push := ⟨Nat.le_refl _, Nat.le_refl _, Nat.le_refl _, Nat.le_refl _⟩
def f_M_toGive (t0 : Nat) (x1 : Int32) (h0 : Hs_t) : Rs_t := (fd_A [8] 14 h0 t0).bind fun v1 => (ar_I h0 v1 x1).bind fun v2 => (fd_A [8] 15 h0 t0).bind fun v3 => (ar_I h0 v3 x1).bind fun v4 => re_I (v2 - v4) h0
set_option maxRecDepth 100000 in
set_option maxHeartbeats 4000000 in
theorem c_M_toGive {l : Launch} {s0 : State} {A0 : Array Value} {G : Gx_t} (hG : G_0 l s0 A0 G) (rm : Room) (hrm : rm_Ok 0 0 0 0 rm) (t0 : Nat) (x1 : Int32) (h0 : Hs_t) (r : Outcome × Hs_t) (heq : f_M_toGive t0 x1 h0 = some r) : M_X G s0 l y_M_toGive (.code y_M_toGive b_M_toGive 2 (some .int)) rm [.ref t0, .int x1] h0 r := by
  refine M_X.of (by decide) hG (fun p e s m below meth c H hc hR => ?_)
  have hx := hc.x
  have hb := hc.b
  obtain ⟨hm1, hm2, hm3, hm4⟩ := id hrm
  have hLo : Lo_k s0 [] := fun _ hq => absurd hq List.not_mem_nil
  have hl := lv_entry ([.ref t0, .int x1]) (n := 2) (Nat.le_of_ble_eq_true rfl)
  rw [lg_entry_eq]
  generalize (lg_sl ([.ref t0, .int x1]) ++ List.replicate (2 - (lg_sl ([.ref t0, .int x1])).length) Slot.unset).toArray = ls at hl ⊢
  have hl : lv_has ls 2 [(0, .ref t0), (1, .int x1)] := hl
  generalize hle : ([] : List Loc) = locs at hLo ⊢
  unfold f_M_toGive at heq
  refine lv_aload_n hx hb d_M_toGive_0 rfl (lv_at hl 0 rfl) ?_
  refine x_gA hc hR fl_M_41 heq d_M_toGive_1 (fun v1 heq => ?_)
  refine lv_iload_n hx hb d_M_toGive_4 rfl (lv_at hl 1 rfl) ?_
  refine x_aI hc hR heq d_M_toGive_5 (fun v2 heq => ?_)
  refine lv_aload_n hx hb d_M_toGive_6 rfl (lv_at hl 0 rfl) ?_
  refine x_gA hc hR fl_M_44 heq d_M_toGive_7 (fun v3 heq => ?_)
  refine lv_iload_n hx hb d_M_toGive_10 rfl (lv_at hl 1 rfl) ?_
  refine x_aI hc hR heq d_M_toGive_11 (fun v4 heq => ?_)
  refine lv_isub hx hb d_M_toGive_12 ?_
  exact x_iret hc hR hLo ⟨by omega, by omega⟩ heq d_M_toGive_13
def rm_M_toGive : Room := { frames := 0, cells := 0, slots := 0, locals := 0 }
theorem rk_M_toGive : rm_Ok 0 0 0 0 rm_M_toGive := ⟨Nat.le_refl _, Nat.le_refl _, Nat.le_refl _, Nat.le_refl _⟩
def f_M_forget_b19 : Nat → Nat → Int32 → Int32 → Int32 → Hs_t → Rs_t
  | 0, _, _, _, _, _ => none
  | n + 1, t0, x1, x2, x3, h0 => (fd_A [8] 14 h0 t0).bind fun v4 => (ar_I h0 v4 x1).bind fun v5 => if ((64 * x1) + v5) ≤ x3 then (re_V h0) else ((fd_A [8] 13 h0 t0).bind fun v6 => (fd_A [8] 13 h0 t0).bind fun v7 => (ar_I h0 v7 (x3 + x2)).bind fun v8 => (as_I h0 v6 x3 v8).bind fun h2 => (f_M_forget_b19 n) t0 x1 x2 (x3 + 1) h2)
def f_M_forget (t0 : Nat) (x1 : Int32) (x2 : Int32) (h0 : Hs_t) : Rs_t := (fd_A [8] 14 h0 t0).bind fun v1 => (fd_A [8] 14 h0 t0).bind fun v2 => (ar_I h0 v2 x1).bind fun v3 => (as_I h0 v1 x1 (v3 - x2)).bind fun h1 => f_M_forget_b19 fu_N t0 x1 x2 (64 * x1) h1
set_option maxRecDepth 100000 in
set_option maxHeartbeats 4000000 in
theorem k_M_forget_b19 {p : Program} {l : Launch} {e : Env} {s : State} {m : MethodId} {args : Array Value} {below : List Frame} {meth : Method} {c : Code} {s0 : State} {A0 : Array Value} {G : Gx_t} {r : Outcome × Hs_t} {rm : Room} (hc : Cx_t p s m meth c s0 A0 l G y_M_forget b_M_forget 4 none []) (hrm : rm_Ok 0 0 0 0 rm) : ∀ (n : Nat) (t0 : Nat) (x1 : Int32) (x2 : Int32) (x3 : Int32) (h0 : Hs_t) (H : Heap) (locs : List Loc) (ls : Array Slot), Rp_h G s0.heap h0 H → Lo_k s0 locs → lv_has ls 4 [(0, .ref t0), (1, .int x1), (2, .int x2), (3, .int x3)] → f_M_forget_b19 n t0 x1 x2 x3 h0 = some r → W p l e rm s m args below meth c H locs 0 0 (xq_MQ G s0 below r s rm.cells rm.slots) (F0 m 19 ls []) := by
  have hx := hc.x
  have hb := hc.b
  obtain ⟨hm1, hm2, hm3, hm4⟩ := id hrm
  intro n
  induction n with
  | zero =>
    intro t0 x1 x2 x3 h0 H locs ls hR hLo hl heq
    unfold f_M_forget_b19 at heq
    cases heq
  | succ n hr19 =>
    intro t0 x1 x2 x3 h0 H locs ls hR hLo hl heq
    unfold f_M_forget_b19 at heq
    refine lv_iload_n hx hb d_M_forget_19 rfl (lv_at hl 3 rfl) ?_
    refine lv_bipush (v := 64) hx hb d_M_forget_20 (by decide) ?_
    refine lv_iload_n hx hb d_M_forget_22 rfl (lv_at hl 1 rfl) ?_
    refine lv_imul hx hb d_M_forget_23 ?_
    refine lv_aload_n hx hb d_M_forget_24 rfl (lv_at hl 0 rfl) ?_
    refine x_gA hc hR fl_M_41 heq d_M_forget_25 (fun v4 heq => ?_)
    refine lv_iload_n hx hb d_M_forget_28 rfl (lv_at hl 1 rfl) ?_
    refine x_aI hc hR heq d_M_forget_29 (fun v5 heq => ?_)
    refine lv_iadd hx hb d_M_forget_30 ?_
    refine lv_icmp_ge (tgt := 54) hx hb d_M_forget_31 rfl (fun hq => ?_) (fun hq => ?_)
    · rw [if_pos hq] at heq
      exact x_vret hc hR hLo ⟨by omega, by omega⟩ heq d_M_forget_54
    · rw [if_neg hq] at heq
      refine lv_aload_n hx hb d_M_forget_34 rfl (lv_at hl 0 rfl) ?_
      refine x_gA hc hR fl_M_38 heq d_M_forget_35 (fun v6 heq => ?_)
      refine lv_iload_n hx hb d_M_forget_38 rfl (lv_at hl 3 rfl) ?_
      refine lv_aload_n hx hb d_M_forget_39 rfl (lv_at hl 0 rfl) ?_
      refine x_gA hc hR fl_M_38 heq d_M_forget_40 (fun v7 heq => ?_)
      refine lv_iload_n hx hb d_M_forget_43 rfl (lv_at hl 3 rfl) ?_
      refine lv_iload_n hx hb d_M_forget_44 rfl (lv_at hl 2 rfl) ?_
      refine lv_iadd hx hb d_M_forget_45 ?_
      refine x_aI hc hR heq d_M_forget_46 (fun v8 heq => ?_)
      refine x_sI hc hR hLo heq d_M_forget_47 (fun h2 H locs hR hLo heq => ?_)
      refine lv_iinc (k := 3) (v := (x3 + 1)) (lv' := [(3, .int (x3 + 1)), (0, .ref t0), (1, .int x1), (2, .int x2)]) hx hb d_M_forget_48 hl rfl rfl (by decide) rfl (fun ls hl => ?_)
      refine lv_goto (tgt := 19) hx hb d_M_forget_51 rfl ?_
      refine W.widen (k := 0) (n := 0) (by omega) (by omega) ?_
      exact hr19 t0 x1 x2 (x3 + 1) h2 H locs ls hR hLo (lv_sub hl [1, 2, 3, 0] rfl) heq
set_option maxRecDepth 100000 in
set_option maxHeartbeats 4000000 in
theorem c_M_forget {l : Launch} {s0 : State} {A0 : Array Value} {G : Gx_t} (hG : G_0 l s0 A0 G) (rm : Room) (hrm : rm_Ok 0 0 0 0 rm) (t0 : Nat) (x1 : Int32) (x2 : Int32) (h0 : Hs_t) (r : Outcome × Hs_t) (heq : f_M_forget t0 x1 x2 h0 = some r) : M_X G s0 l y_M_forget (.code y_M_forget b_M_forget 4 none) rm [.ref t0, .int x1, .int x2] h0 r := by
  refine M_X.of (by decide) hG (fun p e s m below meth c H hc hR => ?_)
  have hx := hc.x
  have hb := hc.b
  obtain ⟨hm1, hm2, hm3, hm4⟩ := id hrm
  have hLo : Lo_k s0 [] := fun _ hq => absurd hq List.not_mem_nil
  have hl := lv_entry ([.ref t0, .int x1, .int x2]) (n := 4) (Nat.le_of_ble_eq_true rfl)
  rw [lg_entry_eq]
  generalize (lg_sl ([.ref t0, .int x1, .int x2]) ++ List.replicate (4 - (lg_sl ([.ref t0, .int x1, .int x2])).length) Slot.unset).toArray = ls at hl ⊢
  have hl : lv_has ls 4 [(0, .ref t0), (1, .int x1), (2, .int x2)] := hl
  generalize hle : ([] : List Loc) = locs at hLo ⊢
  unfold f_M_forget at heq
  refine lv_aload_n hx hb d_M_forget_0 rfl (lv_at hl 0 rfl) ?_
  refine x_gA hc hR fl_M_41 heq d_M_forget_1 (fun v1 heq => ?_)
  refine lv_iload_n hx hb d_M_forget_4 rfl (lv_at hl 1 rfl) ?_
  refine lv_aload_n hx hb d_M_forget_5 rfl (lv_at hl 0 rfl) ?_
  refine x_gA hc hR fl_M_41 heq d_M_forget_6 (fun v2 heq => ?_)
  refine lv_iload_n hx hb d_M_forget_9 rfl (lv_at hl 1 rfl) ?_
  refine x_aI hc hR heq d_M_forget_10 (fun v3 heq => ?_)
  refine lv_iload_n hx hb d_M_forget_11 rfl (lv_at hl 2 rfl) ?_
  refine lv_isub hx hb d_M_forget_12 ?_
  refine x_sI hc hR hLo heq d_M_forget_13 (fun h1 H locs hR hLo heq => ?_)
  refine lv_bipush (v := 64) hx hb d_M_forget_14 (by decide) ?_
  refine lv_iload_n hx hb d_M_forget_16 rfl (lv_at hl 1 rfl) ?_
  refine lv_imul hx hb d_M_forget_17 ?_
  refine lv_istore_n (lv' := [(3, .int (64 * x1)), (0, .ref t0), (1, .int x1), (2, .int x2)]) hx hb d_M_forget_18 rfl hl (by decide) rfl (fun ls hl => ?_)
  refine W.widen (k := 0) (n := 0) (by omega) (by omega) ?_
  exact k_M_forget_b19 hc hrm fu_N t0 x1 x2 (64 * x1) h1 H locs ls hR hLo (lv_sub hl [1, 2, 3, 0] rfl) heq
def rm_M_forget : Room := { frames := 0, cells := 0, slots := 0, locals := 0 }
theorem rk_M_forget : rm_Ok 0 0 0 0 rm_M_forget := ⟨Nat.le_refl _, Nat.le_refl _, Nat.le_refl _, Nat.le_refl _⟩
def f_M_give_b137 (h0 : Hs_t) : Rs_t := re_V h0
def f_M_give_b110 (t0 : Nat) (x1 : Int32) (h0 : Hs_t) : Rs_t := (fd_A [8] 16 h0 t0).bind fun v20 => (ar_Z h0 v20 x1).bind fun v21 => if v21 = 0 then ((fd_A [8] 15 h0 t0).bind fun v22 => (ar_I h0 v22 x1).bind fun v23 => (ck_T [8] h0 t0).bind fun _ => bd_V (f_M_forget t0 x1 v23 h0) (fun h7 => (fd_A [8] 15 h7 t0).bind fun v24 => (as_I h7 v24 x1 0).bind fun h8 => f_M_give_b137 h8)) else (f_M_give_b137 h0)
def f_M_give_b24 : Nat → Nat → Int32 → Int32 → Hs_t → Rs_t
  | 0, _, _, _, _ => none
  | n + 1, t0, x1, x3, h0 => (fd_I [8] 20 h0 t0).bind fun v3 => if v3 ≤ x3 then ((fd_A [8] 15 h0 t0).bind fun v4 => (fd_A [8] 15 h0 t0).bind fun v5 => (ar_I h0 v5 x1).bind fun v6 => (fd_I [8] 20 h0 t0).bind fun v7 => (as_I h0 v4 x1 (v6 + v7)).bind fun h4 => (fd_A [8] 16 h4 t0).bind fun v8 => (ar_Z h4 v8 x1).bind fun v9 => if v9 = 0 then (f_M_give_b110 t0 x1 h4) else ((fd_A [8] 15 h4 t0).bind fun v10 => (ar_I h4 v10 x1).bind fun v11 => (fd_A [8] 17 h4 t0).bind fun v12 => (ar_I h4 v12 x1).bind fun v13 => if v11 ≤ v13 then (f_M_give_b110 t0 x1 h4) else ((fd_A [8] 16 h4 t0).bind fun v14 => (as_Z h4 v14 x1 0).bind fun h5 => f_M_give_b110 t0 x1 h5))) else ((fd_A [8] 19 h0 t0).bind fun v15 => (fd_A [8] 13 h0 t0).bind fun v16 => (fd_A [8] 15 h0 t0).bind fun v17 => (ar_I h0 v17 x1).bind fun v18 => (ar_I h0 v16 (((64 * x1) + v18) + x3)).bind fun v19 => (as_I h0 v15 x3 v19).bind fun h6 => (f_M_give_b24 n) t0 x1 (x3 + 1) h6)
def f_M_give_b19 (t0 : Nat) (x1 : Int32) (sv0 : Int32) (sv1 : Nat) (h0 : Hs_t) : Rs_t := (pt_V [8] 20 h0 sv1 (.int sv0)).bind fun h3 => f_M_give_b24 fu_N t0 x1 0 h3
def f_M_give (t0 : Nat) (x1 : Int32) (x2 : Int32) (h0 : Hs_t) : Rs_t := (ck_T [8] h0 t0).bind fun _ => bd_I (f_M_toGive t0 x1 h0) (fun v1 h1 => if v1 ≤ x2 then ((ck_T [8] h1 t0).bind fun _ => bd_I (f_M_toGive t0 x1 h1) (fun v2 h2 => f_M_give_b19 t0 x1 v2 t0 h2)) else (f_M_give_b19 t0 x1 x2 t0 h1))
set_option maxRecDepth 100000 in
set_option maxHeartbeats 4000000 in
theorem k_M_give_b137 {p : Program} {l : Launch} {e : Env} {s : State} {m : MethodId} {args : Array Value} {below : List Frame} {meth : Method} {c : Code} {s0 : State} {A0 : Array Value} {G : Gx_t} {r : Outcome × Hs_t} {rm : Room} (hc : Cx_t p s m meth c s0 A0 l G y_M_give b_M_give 4 none []) (hrm : rm_Ok 0 0 1 23 rm) : ∀  (h0 : Hs_t) (H : Heap) (locs : List Loc) (ls : Array Slot), Rp_h G s0.heap h0 H → Lo_k s0 locs → lv_has ls 4 [] → f_M_give_b137  h0 = some r → W p l e rm s m args below meth c H locs 0 0 (xq_MQ G s0 below r s rm.cells rm.slots) (F0 m 137 ls []) := by
  have hx := hc.x
  have hb := hc.b
  obtain ⟨hm1, hm2, hm3, hm4⟩ := id hrm
  intro  h0 H locs ls hR hLo hl heq
  unfold f_M_give_b137 at heq
  exact x_vret hc hR hLo ⟨by omega, by omega⟩ heq d_M_give_137
set_option maxRecDepth 100000 in
set_option maxHeartbeats 4000000 in
theorem k_M_give_b110 {p : Program} {l : Launch} {e : Env} {s : State} {m : MethodId} {args : Array Value} {below : List Frame} {meth : Method} {c : Code} {s0 : State} {A0 : Array Value} {G : Gx_t} {r : Outcome × Hs_t} {rm : Room} (hc : Cx_t p s m meth c s0 A0 l G y_M_give b_M_give 4 none []) (hrm : rm_Ok 0 0 1 23 rm) : ∀ (t0 : Nat) (x1 : Int32) (h0 : Hs_t) (H : Heap) (locs : List Loc) (ls : Array Slot), Rp_h G s0.heap h0 H → Lo_k s0 locs → lv_has ls 4 [(0, .ref t0), (1, .int x1)] → f_M_give_b110 t0 x1 h0 = some r → W p l e rm s m args below meth c H locs 0 0 (xq_MQ G s0 below r s rm.cells rm.slots) (F0 m 110 ls []) := by
  have hx := hc.x
  have hb := hc.b
  obtain ⟨hm1, hm2, hm3, hm4⟩ := id hrm
  intro t0 x1 h0 H locs ls hR hLo hl heq
  unfold f_M_give_b110 at heq
  refine lv_aload_n hx hb d_M_give_110 rfl (lv_at hl 0 rfl) ?_
  refine x_gA hc hR fl_M_47 heq d_M_give_111 (fun v20 heq => ?_)
  refine lv_iload_n hx hb d_M_give_114 rfl (lv_at hl 1 rfl) ?_
  refine x_aZ hc hR heq d_M_give_115 (fun v21 heq => ?_)
  refine lv_if_ne (tgt := 137) hx hb d_M_give_116 rfl (fun hq => ?_) (fun hq => ?_)
  · rw [if_neg hq] at heq
    refine W.widen (k := 0) (n := 0) (by omega) (by omega) ?_
    exact k_M_give_b137 hc hrm h0 H locs ls hR hLo (lv_sub hl [] rfl) heq
  · rw [if_pos hq] at heq
    refine lv_aload_n hx hb d_M_give_119 rfl (lv_at hl 0 rfl) ?_
    refine lv_iload_n hx hb d_M_give_120 rfl (lv_at hl 1 rfl) ?_
    refine lv_aload_n hx hb d_M_give_121 rfl (lv_at hl 0 rfl) ?_
    refine x_gA hc hR fl_M_44 heq d_M_give_122 (fun v22 heq => ?_)
    refine lv_iload_n hx hb d_M_give_125 rfl (lv_at hl 1 rfl) ?_
    refine x_aI hc hR heq d_M_give_126 (fun v23 heq => ?_)
    refine x_ck heq (fun tt fs ha ht heq => ?_)
    obtain rfl : tt = 8 := by simpa using ht
    refine x_bV (mc := 0) (ms := 0) (st := []) hc hLo heq ⟨by omega, by omega⟩ (fun r9 h9 => x_runV hc (c_M_forget hc.g rm_M_forget rk_M_forget _ _ _ _ _ h9) md_M_forget hR ha rfl wd_841 wd_843 sp_16 hl.1 ml_M_forget rfl (Nat.le_of_ble_eq_true rfl) d_M_give_127 ⟨by show 0 + 1 ≤ _; omega, by show 8 + (4 + 11) + (0) ≤ _; omega⟩ ⟨by show 0 + 0 ≤ _; omega, by show 0 + 0 ≤ _; omega⟩) (fun h7 H locs hR hLo heq => ?_)
    refine lv_aload_n hx hb d_M_give_130 rfl (lv_at hl 0 rfl) ?_
    refine x_gA hc hR fl_M_44 heq d_M_give_131 (fun v24 heq => ?_)
    refine lv_iload_n hx hb d_M_give_134 rfl (lv_at hl 1 rfl) ?_
    refine lv_iconst (v := 0) hx hb d_M_give_135 (by decide) ?_
    refine x_sI hc hR hLo heq d_M_give_136 (fun h8 H locs hR hLo heq => ?_)
    refine W.widen (k := 0) (n := 0) (by omega) (by omega) ?_
    exact k_M_give_b137 hc hrm h8 H locs ls hR hLo (lv_sub hl [] rfl) heq
set_option maxRecDepth 100000 in
set_option maxHeartbeats 4000000 in
theorem k_M_give_b24 {p : Program} {l : Launch} {e : Env} {s : State} {m : MethodId} {args : Array Value} {below : List Frame} {meth : Method} {c : Code} {s0 : State} {A0 : Array Value} {G : Gx_t} {r : Outcome × Hs_t} {rm : Room} (hc : Cx_t p s m meth c s0 A0 l G y_M_give b_M_give 4 none []) (hrm : rm_Ok 0 0 1 23 rm) : ∀ (n : Nat) (t0 : Nat) (x1 : Int32) (x3 : Int32) (h0 : Hs_t) (H : Heap) (locs : List Loc) (ls : Array Slot), Rp_h G s0.heap h0 H → Lo_k s0 locs → lv_has ls 4 [(0, .ref t0), (1, .int x1), (3, .int x3)] → f_M_give_b24 n t0 x1 x3 h0 = some r → W p l e rm s m args below meth c H locs 0 0 (xq_MQ G s0 below r s rm.cells rm.slots) (F0 m 24 ls []) := by
  have hx := hc.x
  have hb := hc.b
  obtain ⟨hm1, hm2, hm3, hm4⟩ := id hrm
  intro n
  induction n with
  | zero =>
    intro t0 x1 x3 h0 H locs ls hR hLo hl heq
    unfold f_M_give_b24 at heq
    cases heq
  | succ n hr24 =>
    intro t0 x1 x3 h0 H locs ls hR hLo hl heq
    unfold f_M_give_b24 at heq
    refine lv_iload_n hx hb d_M_give_24 rfl (lv_at hl 2 rfl) ?_
    refine lv_aload_n hx hb d_M_give_25 rfl (lv_at hl 0 rfl) ?_
    refine x_gI hc hR fl_M_86 heq d_M_give_26 (fun v3 heq => ?_)
    refine lv_icmp_ge (tgt := 62) hx hb d_M_give_29 rfl (fun hq => ?_) (fun hq => ?_)
    · rw [if_pos hq] at heq
      refine lv_aload_n hx hb d_M_give_62 rfl (lv_at hl 0 rfl) ?_
      refine x_gA hc hR fl_M_44 heq d_M_give_63 (fun v4 heq => ?_)
      refine lv_iload_n hx hb d_M_give_66 rfl (lv_at hl 1 rfl) ?_
      refine lv_aload_n hx hb d_M_give_67 rfl (lv_at hl 0 rfl) ?_
      refine x_gA hc hR fl_M_44 heq d_M_give_68 (fun v5 heq => ?_)
      refine lv_iload_n hx hb d_M_give_71 rfl (lv_at hl 1 rfl) ?_
      refine x_aI hc hR heq d_M_give_72 (fun v6 heq => ?_)
      refine lv_aload_n hx hb d_M_give_73 rfl (lv_at hl 0 rfl) ?_
      refine x_gI hc hR fl_M_86 heq d_M_give_74 (fun v7 heq => ?_)
      refine lv_iadd hx hb d_M_give_77 ?_
      refine x_sI hc hR hLo heq d_M_give_78 (fun h4 H locs hR hLo heq => ?_)
      refine lv_aload_n hx hb d_M_give_79 rfl (lv_at hl 0 rfl) ?_
      refine x_gA hc hR fl_M_47 heq d_M_give_80 (fun v8 heq => ?_)
      refine lv_iload_n hx hb d_M_give_83 rfl (lv_at hl 1 rfl) ?_
      refine x_aZ hc hR heq d_M_give_84 (fun v9 heq => ?_)
      refine lv_if_eq (tgt := 110) hx hb d_M_give_85 rfl (fun hq => ?_) (fun hq => ?_)
      · rw [if_pos hq] at heq
        refine W.widen (k := 0) (n := 0) (by omega) (by omega) ?_
        exact k_M_give_b110 hc hrm t0 x1 h4 H locs ls hR hLo (lv_sub hl [0, 1] rfl) heq
      · rw [if_neg hq] at heq
        refine lv_aload_n hx hb d_M_give_88 rfl (lv_at hl 0 rfl) ?_
        refine x_gA hc hR fl_M_44 heq d_M_give_89 (fun v10 heq => ?_)
        refine lv_iload_n hx hb d_M_give_92 rfl (lv_at hl 1 rfl) ?_
        refine x_aI hc hR heq d_M_give_93 (fun v11 heq => ?_)
        refine lv_aload_n hx hb d_M_give_94 rfl (lv_at hl 0 rfl) ?_
        refine x_gA hc hR fl_M_50 heq d_M_give_95 (fun v12 heq => ?_)
        refine lv_iload_n hx hb d_M_give_98 rfl (lv_at hl 1 rfl) ?_
        refine x_aI hc hR heq d_M_give_99 (fun v13 heq => ?_)
        refine lv_icmp_le (tgt := 110) hx hb d_M_give_100 rfl (fun hq => ?_) (fun hq => ?_)
        · rw [if_pos hq] at heq
          refine W.widen (k := 0) (n := 0) (by omega) (by omega) ?_
          exact k_M_give_b110 hc hrm t0 x1 h4 H locs ls hR hLo (lv_sub hl [0, 1] rfl) heq
        · rw [if_neg hq] at heq
          refine lv_aload_n hx hb d_M_give_103 rfl (lv_at hl 0 rfl) ?_
          refine x_gA hc hR fl_M_47 heq d_M_give_104 (fun v14 heq => ?_)
          refine lv_iload_n hx hb d_M_give_107 rfl (lv_at hl 1 rfl) ?_
          refine lv_iconst (v := 0) hx hb d_M_give_108 (by decide) ?_
          refine x_sZ hc hR hLo heq d_M_give_109 (fun h5 H locs hR hLo heq => ?_)
          refine W.widen (k := 0) (n := 0) (by omega) (by omega) ?_
          exact k_M_give_b110 hc hrm t0 x1 h5 H locs ls hR hLo (lv_sub hl [0, 1] rfl) heq
    · rw [if_neg hq] at heq
      refine lv_aload_n hx hb d_M_give_32 rfl (lv_at hl 0 rfl) ?_
      refine x_gA hc hR fl_M_56 heq d_M_give_33 (fun v15 heq => ?_)
      refine lv_iload_n hx hb d_M_give_36 rfl (lv_at hl 2 rfl) ?_
      refine lv_aload_n hx hb d_M_give_37 rfl (lv_at hl 0 rfl) ?_
      refine x_gA hc hR fl_M_38 heq d_M_give_38 (fun v16 heq => ?_)
      refine lv_bipush (v := 64) hx hb d_M_give_41 (by decide) ?_
      refine lv_iload_n hx hb d_M_give_43 rfl (lv_at hl 1 rfl) ?_
      refine lv_imul hx hb d_M_give_44 ?_
      refine lv_aload_n hx hb d_M_give_45 rfl (lv_at hl 0 rfl) ?_
      refine x_gA hc hR fl_M_44 heq d_M_give_46 (fun v17 heq => ?_)
      refine lv_iload_n hx hb d_M_give_49 rfl (lv_at hl 1 rfl) ?_
      refine x_aI hc hR heq d_M_give_50 (fun v18 heq => ?_)
      refine lv_iadd hx hb d_M_give_51 ?_
      refine lv_iload_n hx hb d_M_give_52 rfl (lv_at hl 2 rfl) ?_
      refine lv_iadd hx hb d_M_give_53 ?_
      refine x_aI hc hR heq d_M_give_54 (fun v19 heq => ?_)
      refine x_sI hc hR hLo heq d_M_give_55 (fun h6 H locs hR hLo heq => ?_)
      refine lv_iinc (k := 2) (v := (x3 + 1)) (lv' := [(3, .int (x3 + 1)), (0, .ref t0), (1, .int x1)]) hx hb d_M_give_56 hl rfl rfl (by decide) rfl (fun ls hl => ?_)
      refine lv_goto (tgt := 24) hx hb d_M_give_59 rfl ?_
      refine W.widen (k := 0) (n := 0) (by omega) (by omega) ?_
      exact hr24 t0 x1 (x3 + 1) h6 H locs ls hR hLo (lv_sub hl [1, 2, 0] rfl) heq
set_option maxRecDepth 100000 in
set_option maxHeartbeats 4000000 in
theorem k_M_give_b19 {p : Program} {l : Launch} {e : Env} {s : State} {m : MethodId} {args : Array Value} {below : List Frame} {meth : Method} {c : Code} {s0 : State} {A0 : Array Value} {G : Gx_t} {r : Outcome × Hs_t} {rm : Room} (hc : Cx_t p s m meth c s0 A0 l G y_M_give b_M_give 4 none []) (hrm : rm_Ok 0 0 1 23 rm) : ∀ (t0 : Nat) (x1 : Int32) (sv0 : Int32) (sv1 : Nat) (h0 : Hs_t) (H : Heap) (locs : List Loc) (ls : Array Slot), Rp_h G s0.heap h0 H → Lo_k s0 locs → lv_has ls 4 [(0, .ref t0), (1, .int x1)] → f_M_give_b19 t0 x1 sv0 sv1 h0 = some r → W p l e rm s m args below meth c H locs 0 0 (xq_MQ G s0 below r s rm.cells rm.slots) (F0 m 19 ls [.int sv0, .ref sv1]) := by
  have hx := hc.x
  have hb := hc.b
  obtain ⟨hm1, hm2, hm3, hm4⟩ := id hrm
  intro t0 x1 sv0 sv1 h0 H locs ls hR hLo hl heq
  unfold f_M_give_b19 at heq
  refine x_pV hc hR hLo fl_M_86 (Or.inl rfl) rfl rfl heq d_M_give_19 (fun h3 H locs hR hLo heq => ?_)
  refine lv_iconst (v := 0) hx hb d_M_give_22 (by decide) ?_
  refine lv_istore_n (lv' := [(3, .int 0), (0, .ref t0), (1, .int x1)]) hx hb d_M_give_23 rfl hl (by decide) rfl (fun ls hl => ?_)
  refine W.widen (k := 0) (n := 0) (by omega) (by omega) ?_
  exact k_M_give_b24 hc hrm fu_N t0 x1 0 h3 H locs ls hR hLo (lv_sub hl [1, 2, 0] rfl) heq
set_option maxRecDepth 100000 in
set_option maxHeartbeats 4000000 in
theorem c_M_give {l : Launch} {s0 : State} {A0 : Array Value} {G : Gx_t} (hG : G_0 l s0 A0 G) (rm : Room) (hrm : rm_Ok 0 0 1 23 rm) (t0 : Nat) (x1 : Int32) (x2 : Int32) (h0 : Hs_t) (r : Outcome × Hs_t) (heq : f_M_give t0 x1 x2 h0 = some r) : M_X G s0 l y_M_give (.code y_M_give b_M_give 4 none) rm [.ref t0, .int x1, .int x2] h0 r := by
  refine M_X.of (by decide) hG (fun p e s m below meth c H hc hR => ?_)
  have hx := hc.x
  have hb := hc.b
  obtain ⟨hm1, hm2, hm3, hm4⟩ := id hrm
  have hLo : Lo_k s0 [] := fun _ hq => absurd hq List.not_mem_nil
  have hl := lv_entry ([.ref t0, .int x1, .int x2]) (n := 4) (Nat.le_of_ble_eq_true rfl)
  rw [lg_entry_eq]
  generalize (lg_sl ([.ref t0, .int x1, .int x2]) ++ List.replicate (4 - (lg_sl ([.ref t0, .int x1, .int x2])).length) Slot.unset).toArray = ls at hl ⊢
  have hl : lv_has ls 4 [(0, .ref t0), (1, .int x1), (2, .int x2)] := hl
  generalize hle : ([] : List Loc) = locs at hLo ⊢
  unfold f_M_give at heq
  refine lv_aload_n hx hb d_M_give_0 rfl (lv_at hl 0 rfl) ?_
  refine lv_iload_n hx hb d_M_give_1 rfl (lv_at hl 2 rfl) ?_
  refine lv_aload_n hx hb d_M_give_2 rfl (lv_at hl 0 rfl) ?_
  refine lv_iload_n hx hb d_M_give_3 rfl (lv_at hl 1 rfl) ?_
  refine x_ck heq (fun tt fs ha ht heq => ?_)
  obtain rfl : tt = 8 := by simpa using ht
  refine x_bI (mc := 0) (ms := 0) (st := [.int x2, .ref t0]) hc hLo heq ⟨by omega, by omega⟩ (fun r9 h9 => x_runV hc (c_M_toGive hc.g rm_M_toGive rk_M_toGive _ _ _ _ h9) md_M_toGive hR ha rfl wd_833 wd_835 sp_14 hl.1 ml_M_toGive rfl (Nat.le_of_ble_eq_true rfl) d_M_give_4 ⟨by show 0 + 1 ≤ _; omega, by show 8 + (2 + 11) + (0) ≤ _; omega⟩ ⟨by show 0 + 0 ≤ _; omega, by show 0 + 0 ≤ _; omega⟩) (fun v1 h1 H locs hR hLo heq => ?_)
  refine lv_icmp_ge (tgt := 14) hx hb d_M_give_7 rfl (fun hq => ?_) (fun hq => ?_)
  · rw [if_pos hq] at heq
    refine lv_aload_n hx hb d_M_give_14 rfl (lv_at hl 0 rfl) ?_
    refine lv_iload_n hx hb d_M_give_15 rfl (lv_at hl 1 rfl) ?_
    refine x_ck heq (fun tt fs ha ht heq => ?_)
    obtain rfl : tt = 8 := by simpa using ht
    refine x_bI (mc := 0) (ms := 0) (st := [.ref t0]) hc hLo heq ⟨by omega, by omega⟩ (fun r9 h9 => x_runV hc (c_M_toGive hc.g rm_M_toGive rk_M_toGive _ _ _ _ h9) md_M_toGive hR ha rfl wd_833 wd_835 sp_14 hl.1 ml_M_toGive rfl (Nat.le_of_ble_eq_true rfl) d_M_give_16 ⟨by show 0 + 1 ≤ _; omega, by show 8 + (2 + 11) + (0) ≤ _; omega⟩ ⟨by show 0 + 0 ≤ _; omega, by show 0 + 0 ≤ _; omega⟩) (fun v2 h2 H locs hR hLo heq => ?_)
    refine W.widen (k := 0) (n := 0) (by omega) (by omega) ?_
    exact k_M_give_b19 hc hrm t0 x1 v2 t0 h2 H locs ls hR hLo (lv_sub hl [0, 1] rfl) heq
  · rw [if_neg hq] at heq
    refine lv_iload_n hx hb d_M_give_10 rfl (lv_at hl 2 rfl) ?_
    refine lv_goto (tgt := 19) hx hb d_M_give_11 rfl ?_
    refine W.widen (k := 0) (n := 0) (by omega) (by omega) ?_
    exact k_M_give_b19 hc hrm t0 x1 x2 t0 h1 H locs ls hR hLo (lv_sub hl [0, 1] rfl) heq
def rm_M_give : Room := { frames := 1, cells := 0, slots := 0, locals := 23 }
theorem rk_M_give : rm_Ok 0 0 1 23 rm_M_give := ⟨Nat.le_refl _, Nat.le_refl _, Nat.le_refl _, Nat.le_refl _⟩
