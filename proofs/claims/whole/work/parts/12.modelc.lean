theorem d_M_putBag_0 : decode b_M_putBag 0 = .ok (.iconst 0, 1) := by decide +kernel
theorem d_M_putBag_1 : decode b_M_putBag 1 = .ok (.istore_n 1, 1) := by decide +kernel
theorem d_M_putBag_2 : decode b_M_putBag 2 = .ok (.iload_n 1, 1) := by decide +kernel
theorem d_M_putBag_3 : decode b_M_putBag 3 = .ok (.aload_n 0, 1) := by decide +kernel
theorem d_M_putBag_4 : decode b_M_putBag 4 = .ok (.getfield 86, 3) := by decide +kernel
theorem d_M_putBag_7 : decode b_M_putBag 7 = .ok (.if_icmp .ge 34, 3) := by decide +kernel
theorem d_M_putBag_10 : decode b_M_putBag 10 = .ok (.aload_n 0, 1) := by decide +kernel
theorem d_M_putBag_11 : decode b_M_putBag 11 = .ok (.getfield 59, 3) := by decide +kernel
theorem d_M_putBag_14 : decode b_M_putBag 14 = .ok (.aload_n 0, 1) := by decide +kernel
theorem d_M_putBag_15 : decode b_M_putBag 15 = .ok (.getfield 123, 3) := by decide +kernel
theorem d_M_putBag_18 : decode b_M_putBag 18 = .ok (.aload_n 0, 1) := by decide +kernel
theorem d_M_putBag_19 : decode b_M_putBag 19 = .ok (.getfield 56, 3) := by decide +kernel
theorem d_M_putBag_22 : decode b_M_putBag 22 = .ok (.iload_n 1, 1) := by decide +kernel
theorem d_M_putBag_23 : decode b_M_putBag 23 = .ok (.iaload, 1) := by decide +kernel
theorem d_M_putBag_24 : decode b_M_putBag 24 = .ok (.iastore, 1) := by decide +kernel
theorem d_M_putBag_25 : decode b_M_putBag 25 = .ok (.aload_n 0, 1) := by decide +kernel
theorem d_M_putBag_26 : decode b_M_putBag 26 = .ok (.dup, 1) := by decide +kernel
theorem d_M_putBag_27 : decode b_M_putBag 27 = .ok (.getfield 123, 3) := by decide +kernel
theorem d_M_putBag_30 : decode b_M_putBag 30 = .ok (.iconst 1, 1) := by decide +kernel
theorem d_M_putBag_31 : decode b_M_putBag 31 = .ok (.iadd, 1) := by decide +kernel
theorem d_M_putBag_32 : decode b_M_putBag 32 = .ok (.putfield 123, 3) := by decide +kernel
theorem d_M_putBag_35 : decode b_M_putBag 35 = .ok (.iinc 1 1, 3) := by decide +kernel
theorem d_M_putBag_38 : decode b_M_putBag 38 = .ok (.goto (-36), 3) := by decide +kernel
theorem d_M_putBag_41 : decode b_M_putBag 41 = .ok (.return_, 1) := by decide +kernel
theorem d_M_read_0 : decode b_M_read 0 = .ok (.aload_n 0, 1) := by decide +kernel
theorem d_M_read_1 : decode b_M_read 1 = .ok (.iconst 0, 1) := by decide +kernel
theorem d_M_read_2 : decode b_M_read 2 = .ok (.putfield 123, 3) := by decide +kernel
theorem d_M_read_5 : decode b_M_read 5 = .ok (.aload_n 0, 1) := by decide +kernel
theorem d_M_read_6 : decode b_M_read 6 = .ok (.aload_n 0, 1) := by decide +kernel
theorem d_M_read_7 : decode b_M_read 7 = .ok (.getfield 75, 3) := by decide +kernel
theorem d_M_read_10 : decode b_M_read 10 = .ok (.ifCond .ne 11, 3) := by decide +kernel
theorem d_M_read_13 : decode b_M_read 13 = .ok (.aload_n 0, 1) := by decide +kernel
theorem d_M_read_14 : decode b_M_read 14 = .ok (.iconst 1, 1) := by decide +kernel
theorem d_M_read_15 : decode b_M_read 15 = .ok (.invokevirtual 126, 3) := by decide +kernel
theorem d_M_read_18 : decode b_M_read 18 = .ok (.ifCond .ne 7, 3) := by decide +kernel
theorem d_M_read_21 : decode b_M_read 21 = .ok (.iconst 1, 1) := by decide +kernel
theorem d_M_read_22 : decode b_M_read 22 = .ok (.goto 4, 3) := by decide +kernel
theorem d_M_read_25 : decode b_M_read 25 = .ok (.iconst 0, 1) := by decide +kernel
theorem d_M_read_26 : decode b_M_read 26 = .ok (.putfield 65, 3) := by decide +kernel
theorem d_M_read_29 : decode b_M_read 29 = .ok (.aload_n 0, 1) := by decide +kernel
theorem d_M_read_30 : decode b_M_read 30 = .ok (.getfield 65, 3) := by decide +kernel
theorem d_M_read_33 : decode b_M_read 33 = .ok (.ifCond .le 5, 3) := by decide +kernel
theorem d_M_read_36 : decode b_M_read 36 = .ok (.iconst 0, 1) := by decide +kernel
theorem d_M_read_37 : decode b_M_read 37 = .ok (.ireturn, 1) := by decide +kernel
theorem d_M_read_38 : decode b_M_read 38 = .ok (.aload_n 0, 1) := by decide +kernel
theorem d_M_read_39 : decode b_M_read 39 = .ok (.invokevirtual 129, 3) := by decide +kernel
theorem d_M_read_42 : decode b_M_read 42 = .ok (.aload_n 0, 1) := by decide +kernel
theorem d_M_read_43 : decode b_M_read 43 = .ok (.getfield 86, 3) := by decide +kernel
theorem d_M_read_46 : decode b_M_read 46 = .ok (.ifCond .ne 7, 3) := by decide +kernel
theorem d_M_read_49 : decode b_M_read 49 = .ok (.iconst (-1), 1) := by decide +kernel
theorem d_M_read_50 : decode b_M_read 50 = .ok (.goto 9, 3) := by decide +kernel
theorem d_M_read_53 : decode b_M_read 53 = .ok (.aload_n 0, 1) := by decide +kernel
theorem d_M_read_54 : decode b_M_read 54 = .ok (.getfield 56, 3) := by decide +kernel
theorem d_M_read_57 : decode b_M_read 57 = .ok (.iconst 0, 1) := by decide +kernel
theorem d_M_read_58 : decode b_M_read 58 = .ok (.iaload, 1) := by decide +kernel
theorem d_M_read_59 : decode b_M_read 59 = .ok (.ireturn, 1) := by decide +kernel
theorem d_M_some_0 : decode b_M_some 0 = .ok (.aload_n 0, 1) := by decide +kernel
theorem d_M_some_1 : decode b_M_some 1 = .ok (.iconst 0, 1) := by decide +kernel
theorem d_M_some_2 : decode b_M_some 2 = .ok (.putfield 123, 3) := by decide +kernel
theorem d_M_some_5 : decode b_M_some 5 = .ok (.aload_n 0, 1) := by decide +kernel
theorem d_M_some_6 : decode b_M_some 6 = .ok (.aload_n 0, 1) := by decide +kernel
theorem d_M_some_7 : decode b_M_some 7 = .ok (.getfield 75, 3) := by decide +kernel
theorem d_M_some_10 : decode b_M_some 10 = .ok (.ifCond .eq 7, 3) := by decide +kernel
theorem d_M_some_13 : decode b_M_some 13 = .ok (.iconst 2, 1) := by decide +kernel
theorem d_M_some_14 : decode b_M_some 14 = .ok (.goto 31, 3) := by decide +kernel
theorem d_M_some_17 : decode b_M_some 17 = .ok (.iload_n 1, 1) := by decide +kernel
theorem d_M_some_18 : decode b_M_some 18 = .ok (.iconst 1, 1) := by decide +kernel
theorem d_M_some_19 : decode b_M_some 19 = .ok (.if_icmp .lt 9, 3) := by decide +kernel
theorem d_M_some_22 : decode b_M_some 22 = .ok (.iload_n 1, 1) := by decide +kernel
theorem d_M_some_23 : decode b_M_some 23 = .ok (.bipush 60, 2) := by decide +kernel
theorem d_M_some_25 : decode b_M_some 25 = .ok (.if_icmp .le 7, 3) := by decide +kernel
theorem d_M_some_28 : decode b_M_some 28 = .ok (.iconst 1, 1) := by decide +kernel
theorem d_M_some_29 : decode b_M_some 29 = .ok (.goto 16, 3) := by decide +kernel
theorem d_M_some_32 : decode b_M_some 32 = .ok (.aload_n 0, 1) := by decide +kernel
theorem d_M_some_33 : decode b_M_some 33 = .ok (.iload_n 1, 1) := by decide +kernel
theorem d_M_some_34 : decode b_M_some 34 = .ok (.invokevirtual 126, 3) := by decide +kernel
theorem d_M_some_37 : decode b_M_some 37 = .ok (.ifCond .ne 7, 3) := by decide +kernel
theorem d_M_some_40 : decode b_M_some 40 = .ok (.iconst 2, 1) := by decide +kernel
theorem d_M_some_41 : decode b_M_some 41 = .ok (.goto 4, 3) := by decide +kernel
theorem d_M_some_44 : decode b_M_some 44 = .ok (.iconst 0, 1) := by decide +kernel
theorem d_M_some_45 : decode b_M_some 45 = .ok (.putfield 65, 3) := by decide +kernel
theorem d_M_some_48 : decode b_M_some 48 = .ok (.aload_n 0, 1) := by decide +kernel
theorem d_M_some_49 : decode b_M_some 49 = .ok (.getfield 65, 3) := by decide +kernel
theorem d_M_some_52 : decode b_M_some 52 = .ok (.ifCond .le 5, 3) := by decide +kernel
theorem d_M_some_55 : decode b_M_some 55 = .ok (.iconst 0, 1) := by decide +kernel
theorem d_M_some_56 : decode b_M_some 56 = .ok (.ireturn, 1) := by decide +kernel
theorem d_M_some_57 : decode b_M_some 57 = .ok (.aload_n 0, 1) := by decide +kernel
theorem d_M_some_58 : decode b_M_some 58 = .ok (.invokevirtual 129, 3) := by decide +kernel
theorem d_M_some_61 : decode b_M_some 61 = .ok (.aload_n 0, 1) := by decide +kernel
theorem d_M_some_62 : decode b_M_some 62 = .ok (.getfield 86, 3) := by decide +kernel
theorem d_M_some_65 : decode b_M_some 65 = .ok (.ifCond .ne 7, 3) := by decide +kernel
theorem d_M_some_68 : decode b_M_some 68 = .ok (.iconst (-1), 1) := by decide +kernel
theorem d_M_some_69 : decode b_M_some 69 = .ok (.goto 7, 3) := by decide +kernel
theorem d_M_some_72 : decode b_M_some 72 = .ok (.aload_n 0, 1) := by decide +kernel
theorem d_M_some_73 : decode b_M_some 73 = .ok (.getfield 86, 3) := by decide +kernel
theorem d_M_some_76 : decode b_M_some 76 = .ok (.ireturn, 1) := by decide +kernel
theorem d_M_fill_0 : decode b_M_fill 0 = .ok (.iload_n 1, 1) := by decide +kernel
theorem d_M_fill_1 : decode b_M_fill 1 = .ok (.istore_n 2, 1) := by decide +kernel
theorem d_M_fill_2 : decode b_M_fill 2 = .ok (.iload_n 2, 1) := by decide +kernel
theorem d_M_fill_3 : decode b_M_fill 3 = .ok (.ifCond .le 36, 3) := by decide +kernel
theorem d_M_fill_6 : decode b_M_fill 6 = .ok (.aload_n 0, 1) := by decide +kernel
theorem d_M_fill_7 : decode b_M_fill 7 = .ok (.iload_n 2, 1) := by decide +kernel
theorem d_M_fill_8 : decode b_M_fill 8 = .ok (.invokevirtual 126, 3) := by decide +kernel
theorem d_M_fill_11 : decode b_M_fill 11 = .ok (.ifCond .ne 5, 3) := by decide +kernel
theorem d_M_fill_14 : decode b_M_fill 14 = .ok (.iconst 1, 1) := by decide +kernel
theorem d_M_fill_15 : decode b_M_fill 15 = .ok (.ireturn, 1) := by decide +kernel
theorem d_M_fill_16 : decode b_M_fill 16 = .ok (.aload_n 0, 1) := by decide +kernel
theorem d_M_fill_17 : decode b_M_fill 17 = .ok (.getfield 86, 3) := by decide +kernel
theorem d_M_fill_20 : decode b_M_fill 20 = .ok (.ifCond .ne 5, 3) := by decide +kernel
theorem d_M_fill_23 : decode b_M_fill 23 = .ok (.iconst 2, 1) := by decide +kernel
theorem d_M_fill_24 : decode b_M_fill 24 = .ok (.ireturn, 1) := by decide +kernel
theorem d_M_fill_25 : decode b_M_fill 25 = .ok (.aload_n 0, 1) := by decide +kernel
theorem d_M_fill_26 : decode b_M_fill 26 = .ok (.invokevirtual 129, 3) := by decide +kernel
theorem d_M_fill_29 : decode b_M_fill 29 = .ok (.iload_n 2, 1) := by decide +kernel
theorem d_M_fill_30 : decode b_M_fill 30 = .ok (.aload_n 0, 1) := by decide +kernel
theorem d_M_fill_31 : decode b_M_fill 31 = .ok (.getfield 86, 3) := by decide +kernel
theorem d_M_fill_34 : decode b_M_fill 34 = .ok (.isub, 1) := by decide +kernel
theorem d_M_fill_35 : decode b_M_fill 35 = .ok (.istore_n 2, 1) := by decide +kernel
theorem d_M_fill_36 : decode b_M_fill 36 = .ok (.goto (-34), 3) := by decide +kernel
theorem d_M_fill_39 : decode b_M_fill 39 = .ok (.iconst 0, 1) := by decide +kernel
theorem d_M_fill_40 : decode b_M_fill 40 = .ok (.ireturn, 1) := by decide +kernel
theorem d_M_full_0 : decode b_M_full 0 = .ok (.aload_n 0, 1) := by decide +kernel
theorem d_M_full_1 : decode b_M_full 1 = .ok (.iconst 0, 1) := by decide +kernel
theorem d_M_full_2 : decode b_M_full 2 = .ok (.putfield 123, 3) := by decide +kernel
theorem d_M_full_5 : decode b_M_full 5 = .ok (.aload_n 0, 1) := by decide +kernel
theorem d_M_full_6 : decode b_M_full 6 = .ok (.aload_n 0, 1) := by decide +kernel
theorem d_M_full_7 : decode b_M_full 7 = .ok (.getfield 75, 3) := by decide +kernel
theorem d_M_full_10 : decode b_M_full 10 = .ok (.ifCond .eq 7, 3) := by decide +kernel
theorem d_M_full_13 : decode b_M_full 13 = .ok (.iconst 2, 1) := by decide +kernel
theorem d_M_full_14 : decode b_M_full 14 = .ok (.goto 18, 3) := by decide +kernel
theorem d_M_full_17 : decode b_M_full 17 = .ok (.iload_n 1, 1) := by decide +kernel
theorem d_M_full_18 : decode b_M_full 18 = .ok (.ifCond .lt 9, 3) := by decide +kernel
theorem d_M_full_21 : decode b_M_full 21 = .ok (.iload_n 1, 1) := by decide +kernel
theorem d_M_full_22 : decode b_M_full 22 = .ok (.bipush 60, 2) := by decide +kernel
theorem d_M_full_24 : decode b_M_full 24 = .ok (.if_icmp .le 7, 3) := by decide +kernel
theorem d_M_full_27 : decode b_M_full 27 = .ok (.iconst 1, 1) := by decide +kernel
theorem d_M_full_28 : decode b_M_full 28 = .ok (.goto 4, 3) := by decide +kernel
theorem d_M_full_31 : decode b_M_full 31 = .ok (.iconst 0, 1) := by decide +kernel
theorem d_M_full_32 : decode b_M_full 32 = .ok (.putfield 65, 3) := by decide +kernel
theorem d_M_full_35 : decode b_M_full 35 = .ok (.aload_n 0, 1) := by decide +kernel
theorem d_M_full_36 : decode b_M_full 36 = .ok (.getfield 65, 3) := by decide +kernel
theorem d_M_full_39 : decode b_M_full 39 = .ok (.ifCond .ne 24, 3) := by decide +kernel
theorem d_M_full_42 : decode b_M_full 42 = .ok (.aload_n 0, 1) := by decide +kernel
theorem d_M_full_43 : decode b_M_full 43 = .ok (.iload_n 1, 1) := by decide +kernel
theorem d_M_full_44 : decode b_M_full 44 = .ok (.invokevirtual 132, 3) := by decide +kernel
theorem d_M_full_47 : decode b_M_full 47 = .ok (.istore_n 2, 1) := by decide +kernel
theorem d_M_full_48 : decode b_M_full 48 = .ok (.aload_n 0, 1) := by decide +kernel
theorem d_M_full_49 : decode b_M_full 49 = .ok (.iload_n 2, 1) := by decide +kernel
theorem d_M_full_50 : decode b_M_full 50 = .ok (.ifCond .ne 7, 3) := by decide +kernel
theorem d_M_full_53 : decode b_M_full 53 = .ok (.iconst 0, 1) := by decide +kernel
theorem d_M_full_54 : decode b_M_full 54 = .ok (.goto 6, 3) := by decide +kernel
theorem d_M_full_57 : decode b_M_full 57 = .ok (.iload_n 2, 1) := by decide +kernel
theorem d_M_full_58 : decode b_M_full 58 = .ok (.iconst 1, 1) := by decide +kernel
theorem d_M_full_59 : decode b_M_full 59 = .ok (.iadd, 1) := by decide +kernel
theorem d_M_full_60 : decode b_M_full 60 = .ok (.putfield 65, 3) := by decide +kernel
theorem d_M_full_63 : decode b_M_full 63 = .ok (.return_, 1) := by decide +kernel
theorem d_M_skip_0 : decode b_M_skip 0 = .ok (.aload_n 0, 1) := by decide +kernel
theorem d_M_skip_1 : decode b_M_skip 1 = .ok (.iconst 0, 1) := by decide +kernel
theorem d_M_skip_2 : decode b_M_skip 2 = .ok (.putfield 123, 3) := by decide +kernel
theorem d_M_skip_5 : decode b_M_skip 5 = .ok (.aload_n 0, 1) := by decide +kernel
theorem d_M_skip_6 : decode b_M_skip 6 = .ok (.aload_n 0, 1) := by decide +kernel
theorem d_M_skip_7 : decode b_M_skip 7 = .ok (.getfield 75, 3) := by decide +kernel
theorem d_M_skip_10 : decode b_M_skip 10 = .ok (.ifCond .eq 7, 3) := by decide +kernel
theorem d_M_skip_13 : decode b_M_skip 13 = .ok (.iconst 2, 1) := by decide +kernel
theorem d_M_skip_14 : decode b_M_skip 14 = .ok (.goto 18, 3) := by decide +kernel
theorem d_M_skip_17 : decode b_M_skip 17 = .ok (.iload_n 1, 1) := by decide +kernel
theorem d_M_skip_18 : decode b_M_skip 18 = .ok (.ifCond .lt 9, 3) := by decide +kernel
theorem d_M_skip_21 : decode b_M_skip 21 = .ok (.iload_n 1, 1) := by decide +kernel
theorem d_M_skip_22 : decode b_M_skip 22 = .ok (.bipush 120, 2) := by decide +kernel
theorem d_M_skip_24 : decode b_M_skip 24 = .ok (.if_icmp .le 7, 3) := by decide +kernel
theorem d_M_skip_27 : decode b_M_skip 27 = .ok (.iconst 1, 1) := by decide +kernel
theorem d_M_skip_28 : decode b_M_skip 28 = .ok (.goto 4, 3) := by decide +kernel
theorem d_M_skip_31 : decode b_M_skip 31 = .ok (.iconst 0, 1) := by decide +kernel
theorem d_M_skip_32 : decode b_M_skip 32 = .ok (.putfield 65, 3) := by decide +kernel
theorem d_M_skip_35 : decode b_M_skip 35 = .ok (.aload_n 0, 1) := by decide +kernel
theorem d_M_skip_36 : decode b_M_skip 36 = .ok (.getfield 65, 3) := by decide +kernel
theorem d_M_skip_39 : decode b_M_skip 39 = .ok (.ifCond .le 5, 3) := by decide +kernel
theorem d_M_skip_42 : decode b_M_skip 42 = .ok (.iconst 0, 1) := by decide +kernel
theorem d_M_skip_43 : decode b_M_skip 43 = .ok (.ireturn, 1) := by decide +kernel
theorem d_M_skip_44 : decode b_M_skip 44 = .ok (.iconst 0, 1) := by decide +kernel
theorem d_M_skip_45 : decode b_M_skip 45 = .ok (.istore_n 2, 1) := by decide +kernel
theorem d_M_skip_46 : decode b_M_skip 46 = .ok (.iconst 1, 1) := by decide +kernel
theorem d_M_skip_47 : decode b_M_skip 47 = .ok (.istore_n 3, 1) := by decide +kernel
theorem d_M_skip_48 : decode b_M_skip 48 = .ok (.iload_n 3, 1) := by decide +kernel
theorem d_M_skip_49 : decode b_M_skip 49 = .ok (.ifCond .eq 56, 3) := by decide +kernel
theorem d_M_skip_52 : decode b_M_skip 52 = .ok (.iload_n 2, 1) := by decide +kernel
theorem d_M_skip_53 : decode b_M_skip 53 = .ok (.iload_n 1, 1) := by decide +kernel
theorem d_M_skip_54 : decode b_M_skip 54 = .ok (.if_icmp .ge 51, 3) := by decide +kernel
theorem d_M_skip_57 : decode b_M_skip 57 = .ok (.aload_n 0, 1) := by decide +kernel
theorem d_M_skip_58 : decode b_M_skip 58 = .ok (.iload_n 1, 1) := by decide +kernel
theorem d_M_skip_59 : decode b_M_skip 59 = .ok (.iload_n 2, 1) := by decide +kernel
theorem d_M_skip_60 : decode b_M_skip 60 = .ok (.isub, 1) := by decide +kernel
theorem d_M_skip_61 : decode b_M_skip 61 = .ok (.invokevirtual 126, 3) := by decide +kernel
theorem d_M_skip_64 : decode b_M_skip 64 = .ok (.istore_n 3, 1) := by decide +kernel
theorem d_M_skip_65 : decode b_M_skip 65 = .ok (.iload_n 3, 1) := by decide +kernel
theorem d_M_skip_66 : decode b_M_skip 66 = .ok (.ifCond .ne 12, 3) := by decide +kernel
theorem d_M_skip_69 : decode b_M_skip 69 = .ok (.iload_n 2, 1) := by decide +kernel
theorem d_M_skip_70 : decode b_M_skip 70 = .ok (.ifCond .ne 8, 3) := by decide +kernel
theorem d_M_skip_73 : decode b_M_skip 73 = .ok (.aload_n 0, 1) := by decide +kernel
theorem d_M_skip_74 : decode b_M_skip 74 = .ok (.iconst 2, 1) := by decide +kernel
theorem d_M_skip_75 : decode b_M_skip 75 = .ok (.putfield 65, 3) := by decide +kernel
theorem d_M_skip_78 : decode b_M_skip 78 = .ok (.iload_n 3, 1) := by decide +kernel
theorem d_M_skip_79 : decode b_M_skip 79 = .ok (.ifCond .eq (-31), 3) := by decide +kernel
theorem d_M_skip_82 : decode b_M_skip 82 = .ok (.iload_n 2, 1) := by decide +kernel
theorem d_M_skip_83 : decode b_M_skip 83 = .ok (.aload_n 0, 1) := by decide +kernel
theorem d_M_skip_84 : decode b_M_skip 84 = .ok (.getfield 86, 3) := by decide +kernel
theorem d_M_skip_87 : decode b_M_skip 87 = .ok (.iadd, 1) := by decide +kernel
theorem d_M_skip_88 : decode b_M_skip 88 = .ok (.istore_n 2, 1) := by decide +kernel
theorem d_M_skip_89 : decode b_M_skip 89 = .ok (.aload_n 0, 1) := by decide +kernel
theorem d_M_skip_90 : decode b_M_skip 90 = .ok (.getfield 86, 3) := by decide +kernel
theorem d_M_skip_93 : decode b_M_skip 93 = .ok (.ifCond .le 7, 3) := by decide +kernel
theorem d_M_skip_96 : decode b_M_skip 96 = .ok (.iconst 1, 1) := by decide +kernel
theorem d_M_skip_97 : decode b_M_skip 97 = .ok (.goto 4, 3) := by decide +kernel
theorem d_M_skip_100 : decode b_M_skip 100 = .ok (.iconst 0, 1) := by decide +kernel
theorem d_M_skip_101 : decode b_M_skip 101 = .ok (.istore_n 3, 1) := by decide +kernel
theorem d_M_skip_102 : decode b_M_skip 102 = .ok (.goto (-54), 3) := by decide +kernel
theorem d_M_skip_105 : decode b_M_skip 105 = .ok (.aload_n 0, 1) := by decide +kernel
theorem d_M_skip_106 : decode b_M_skip 106 = .ok (.getfield 65, 3) := by decide +kernel
theorem d_M_skip_109 : decode b_M_skip 109 = .ok (.ifCond .le 7, 3) := by decide +kernel
theorem d_M_skip_112 : decode b_M_skip 112 = .ok (.iconst 0, 1) := by decide +kernel
theorem d_M_skip_113 : decode b_M_skip 113 = .ok (.goto 4, 3) := by decide +kernel
theorem d_M_skip_116 : decode b_M_skip 116 = .ok (.iload_n 2, 1) := by decide +kernel
theorem d_M_skip_117 : decode b_M_skip 117 = .ok (.ireturn, 1) := by decide +kernel
theorem d_M_number_0 : decode b_M_number 0 = .ok (.aload_n 0, 1) := by decide +kernel
theorem d_M_number_1 : decode b_M_number 1 = .ok (.iconst 0, 1) := by decide +kernel
theorem d_M_number_2 : decode b_M_number 2 = .ok (.putfield 123, 3) := by decide +kernel
theorem d_M_number_5 : decode b_M_number 5 = .ok (.aload_n 0, 1) := by decide +kernel
theorem d_M_number_6 : decode b_M_number 6 = .ok (.aload_n 0, 1) := by decide +kernel
theorem d_M_number_7 : decode b_M_number 7 = .ok (.getfield 75, 3) := by decide +kernel
theorem d_M_number_10 : decode b_M_number 10 = .ok (.ifCond .eq 7, 3) := by decide +kernel
theorem d_M_number_13 : decode b_M_number 13 = .ok (.iconst 2, 1) := by decide +kernel
theorem d_M_number_14 : decode b_M_number 14 = .ok (.goto 19, 3) := by decide +kernel
theorem d_M_number_17 : decode b_M_number 17 = .ok (.iload_n 1, 1) := by decide +kernel
theorem d_M_number_18 : decode b_M_number 18 = .ok (.iconst 1, 1) := by decide +kernel
theorem d_M_number_19 : decode b_M_number 19 = .ok (.if_icmp .lt 9, 3) := by decide +kernel
theorem d_M_number_22 : decode b_M_number 22 = .ok (.iload_n 1, 1) := by decide +kernel
theorem d_M_number_23 : decode b_M_number 23 = .ok (.bipush 8, 2) := by decide +kernel
theorem d_M_number_25 : decode b_M_number 25 = .ok (.if_icmp .le 7, 3) := by decide +kernel
theorem d_M_number_28 : decode b_M_number 28 = .ok (.iconst 1, 1) := by decide +kernel
theorem d_M_number_29 : decode b_M_number 29 = .ok (.goto 4, 3) := by decide +kernel
theorem d_M_number_32 : decode b_M_number 32 = .ok (.iconst 0, 1) := by decide +kernel
theorem d_M_number_33 : decode b_M_number 33 = .ok (.putfield 65, 3) := by decide +kernel
theorem d_M_number_36 : decode b_M_number 36 = .ok (.aload_n 0, 1) := by decide +kernel
theorem d_M_number_37 : decode b_M_number 37 = .ok (.getfield 65, 3) := by decide +kernel
theorem d_M_number_40 : decode b_M_number 40 = .ok (.ifCond .le 5, 3) := by decide +kernel
theorem d_M_number_43 : decode b_M_number 43 = .ok (.lconst 0, 1) := by decide +kernel
theorem d_M_number_44 : decode b_M_number 44 = .ok (.lreturn, 1) := by decide +kernel
theorem d_M_number_45 : decode b_M_number 45 = .ok (.aload_n 0, 1) := by decide +kernel
theorem d_M_number_46 : decode b_M_number 46 = .ok (.iload_n 1, 1) := by decide +kernel
theorem d_M_number_47 : decode b_M_number 47 = .ok (.invokevirtual 132, 3) := by decide +kernel
theorem d_M_number_50 : decode b_M_number 50 = .ok (.istore_n 2, 1) := by decide +kernel
theorem d_M_number_51 : decode b_M_number 51 = .ok (.aload_n 0, 1) := by decide +kernel
theorem d_M_number_52 : decode b_M_number 52 = .ok (.iload_n 2, 1) := by decide +kernel
theorem d_M_number_53 : decode b_M_number 53 = .ok (.ifCond .ne 7, 3) := by decide +kernel
theorem d_M_number_56 : decode b_M_number 56 = .ok (.iconst 0, 1) := by decide +kernel
theorem d_M_number_57 : decode b_M_number 57 = .ok (.goto 6, 3) := by decide +kernel
theorem d_M_number_60 : decode b_M_number 60 = .ok (.iload_n 2, 1) := by decide +kernel
theorem d_M_number_61 : decode b_M_number 61 = .ok (.iconst 1, 1) := by decide +kernel
theorem d_M_number_62 : decode b_M_number 62 = .ok (.iadd, 1) := by decide +kernel
theorem d_M_number_63 : decode b_M_number 63 = .ok (.putfield 65, 3) := by decide +kernel
theorem d_M_number_66 : decode b_M_number 66 = .ok (.aload_n 0, 1) := by decide +kernel
theorem d_M_number_67 : decode b_M_number 67 = .ok (.getfield 65, 3) := by decide +kernel
theorem d_M_number_70 : decode b_M_number 70 = .ok (.ifCond .le 5, 3) := by decide +kernel
theorem d_M_number_73 : decode b_M_number 73 = .ok (.lconst 0, 1) := by decide +kernel
theorem d_M_number_74 : decode b_M_number 74 = .ok (.lreturn, 1) := by decide +kernel
theorem d_M_number_75 : decode b_M_number 75 = .ok (.lconst 0, 1) := by decide +kernel
theorem d_M_number_76 : decode b_M_number 76 = .ok (.lstore_n 3, 1) := by decide +kernel
theorem d_M_number_77 : decode b_M_number 77 = .ok (.iconst 0, 1) := by decide +kernel
theorem d_M_number_78 : decode b_M_number 78 = .ok (.istore 5, 2) := by decide +kernel
theorem d_M_number_80 : decode b_M_number 80 = .ok (.iload 5, 2) := by decide +kernel
theorem d_M_number_82 : decode b_M_number 82 = .ok (.iload_n 1, 1) := by decide +kernel
theorem d_M_number_83 : decode b_M_number 83 = .ok (.if_icmp .ge 23, 3) := by decide +kernel
theorem d_M_number_86 : decode b_M_number 86 = .ok (.lload_n 3, 1) := by decide +kernel
theorem d_M_number_87 : decode b_M_number 87 = .ok (.bipush 8, 2) := by decide +kernel
theorem d_M_number_89 : decode b_M_number 89 = .ok (.lshl, 1) := by decide +kernel
theorem d_M_number_90 : decode b_M_number 90 = .ok (.aload_n 0, 1) := by decide +kernel
theorem d_M_number_91 : decode b_M_number 91 = .ok (.getfield 59, 3) := by decide +kernel
theorem d_M_number_94 : decode b_M_number 94 = .ok (.iload 5, 2) := by decide +kernel
theorem d_M_number_96 : decode b_M_number 96 = .ok (.iaload, 1) := by decide +kernel
theorem d_M_number_97 : decode b_M_number 97 = .ok (.i2l, 1) := by decide +kernel
theorem d_M_number_98 : decode b_M_number 98 = .ok (.lor, 1) := by decide +kernel
theorem d_M_number_99 : decode b_M_number 99 = .ok (.lstore_n 3, 1) := by decide +kernel
theorem d_M_number_100 : decode b_M_number 100 = .ok (.iinc 5 1, 3) := by decide +kernel
theorem d_M_number_103 : decode b_M_number 103 = .ok (.goto (-23), 3) := by decide +kernel
theorem d_M_number_106 : decode b_M_number 106 = .ok (.lload_n 3, 1) := by decide +kernel
theorem d_M_number_107 : decode b_M_number 107 = .ok (.lreturn, 1) := by decide +kernel
theorem d_M_further_0 : decode b_M_further 0 = .ok (.iload_n 1, 1) := by decide +kernel
theorem d_M_further_1 : decode b_M_further 1 = .ok (.aload_n 0, 1) := by decide +kernel
theorem d_M_further_2 : decode b_M_further 2 = .ok (.getfield 123, 3) := by decide +kernel
theorem d_M_further_5 : decode b_M_further 5 = .ok (.if_icmp .ge 23, 3) := by decide +kernel
theorem d_M_further_8 : decode b_M_further 8 = .ok (.aload_n 0, 1) := by decide +kernel
theorem d_M_further_9 : decode b_M_further 9 = .ok (.getfield 59, 3) := by decide +kernel
theorem d_M_further_12 : decode b_M_further 12 = .ok (.iload_n 1, 1) := by decide +kernel
theorem d_M_further_13 : decode b_M_further 13 = .ok (.iaload, 1) := by decide +kernel
theorem d_M_further_14 : decode b_M_further 14 = .ok (.sipush 192, 3) := by decide +kernel
theorem d_M_further_17 : decode b_M_further 17 = .ok (.iand, 1) := by decide +kernel
theorem d_M_further_18 : decode b_M_further 18 = .ok (.sipush 128, 3) := by decide +kernel
theorem d_M_further_21 : decode b_M_further 21 = .ok (.if_icmp .ne 7, 3) := by decide +kernel
theorem d_M_further_24 : decode b_M_further 24 = .ok (.iconst 1, 1) := by decide +kernel
theorem d_M_further_25 : decode b_M_further 25 = .ok (.goto 4, 3) := by decide +kernel
theorem d_M_further_28 : decode b_M_further 28 = .ok (.iconst 0, 1) := by decide +kernel
theorem d_M_further_29 : decode b_M_further 29 = .ok (.ireturn, 1) := by decide +kernel
theorem d_M_letterSize_0 : decode b_M_letterSize 0 = .ok (.aload_n 0, 1) := by decide +kernel
theorem d_M_letterSize_1 : decode b_M_letterSize 1 = .ok (.getfield 59, 3) := by decide +kernel
theorem d_M_letterSize_4 : decode b_M_letterSize 4 = .ok (.iload_n 1, 1) := by decide +kernel
theorem d_M_letterSize_5 : decode b_M_letterSize 5 = .ok (.iaload, 1) := by decide +kernel
theorem d_M_letterSize_6 : decode b_M_letterSize 6 = .ok (.istore_n 2, 1) := by decide +kernel
theorem d_M_letterSize_7 : decode b_M_letterSize 7 = .ok (.iload_n 2, 1) := by decide +kernel
theorem d_M_letterSize_8 : decode b_M_letterSize 8 = .ok (.sipush 128, 3) := by decide +kernel
theorem d_M_letterSize_11 : decode b_M_letterSize 11 = .ok (.if_icmp .ge 5, 3) := by decide +kernel
theorem d_M_letterSize_14 : decode b_M_letterSize 14 = .ok (.iconst 1, 1) := by decide +kernel
theorem d_M_letterSize_15 : decode b_M_letterSize 15 = .ok (.ireturn, 1) := by decide +kernel
theorem d_M_letterSize_16 : decode b_M_letterSize 16 = .ok (.iload_n 2, 1) := by decide +kernel
theorem d_M_letterSize_17 : decode b_M_letterSize 17 = .ok (.sipush 224, 3) := by decide +kernel
theorem d_M_letterSize_20 : decode b_M_letterSize 20 = .ok (.iand, 1) := by decide +kernel
theorem d_M_letterSize_21 : decode b_M_letterSize 21 = .ok (.sipush 192, 3) := by decide +kernel
theorem d_M_letterSize_24 : decode b_M_letterSize 24 = .ok (.if_icmp .ne 19, 3) := by decide +kernel
theorem d_M_letterSize_27 : decode b_M_letterSize 27 = .ok (.aload_n 0, 1) := by decide +kernel
theorem d_M_letterSize_28 : decode b_M_letterSize 28 = .ok (.iload_n 1, 1) := by decide +kernel
theorem d_M_letterSize_29 : decode b_M_letterSize 29 = .ok (.iconst 1, 1) := by decide +kernel
theorem d_M_letterSize_30 : decode b_M_letterSize 30 = .ok (.iadd, 1) := by decide +kernel
theorem d_M_letterSize_31 : decode b_M_letterSize 31 = .ok (.invokevirtual 135, 3) := by decide +kernel
theorem d_M_letterSize_34 : decode b_M_letterSize 34 = .ok (.ifCond .eq 7, 3) := by decide +kernel
theorem d_M_letterSize_37 : decode b_M_letterSize 37 = .ok (.iconst 2, 1) := by decide +kernel
theorem d_M_letterSize_38 : decode b_M_letterSize 38 = .ok (.goto 4, 3) := by decide +kernel
theorem d_M_letterSize_41 : decode b_M_letterSize 41 = .ok (.iconst 0, 1) := by decide +kernel
theorem d_M_letterSize_42 : decode b_M_letterSize 42 = .ok (.ireturn, 1) := by decide +kernel
theorem d_M_letterSize_43 : decode b_M_letterSize 43 = .ok (.iload_n 2, 1) := by decide +kernel
theorem d_M_letterSize_44 : decode b_M_letterSize 44 = .ok (.sipush 240, 3) := by decide +kernel
theorem d_M_letterSize_47 : decode b_M_letterSize 47 = .ok (.iand, 1) := by decide +kernel
theorem d_M_letterSize_48 : decode b_M_letterSize 48 = .ok (.sipush 224, 3) := by decide +kernel
theorem d_M_letterSize_51 : decode b_M_letterSize 51 = .ok (.if_icmp .ne 27, 3) := by decide +kernel
theorem d_M_letterSize_54 : decode b_M_letterSize 54 = .ok (.aload_n 0, 1) := by decide +kernel
theorem d_M_letterSize_55 : decode b_M_letterSize 55 = .ok (.iload_n 1, 1) := by decide +kernel
theorem d_M_letterSize_56 : decode b_M_letterSize 56 = .ok (.iconst 1, 1) := by decide +kernel
theorem d_M_letterSize_57 : decode b_M_letterSize 57 = .ok (.iadd, 1) := by decide +kernel
theorem d_M_letterSize_58 : decode b_M_letterSize 58 = .ok (.invokevirtual 135, 3) := by decide +kernel
theorem d_M_letterSize_61 : decode b_M_letterSize 61 = .ok (.ifCond .eq 17, 3) := by decide +kernel
theorem d_M_letterSize_64 : decode b_M_letterSize 64 = .ok (.aload_n 0, 1) := by decide +kernel
theorem d_M_letterSize_65 : decode b_M_letterSize 65 = .ok (.iload_n 1, 1) := by decide +kernel
theorem d_M_letterSize_66 : decode b_M_letterSize 66 = .ok (.iconst 2, 1) := by decide +kernel
theorem d_M_letterSize_67 : decode b_M_letterSize 67 = .ok (.iadd, 1) := by decide +kernel
theorem d_M_letterSize_68 : decode b_M_letterSize 68 = .ok (.invokevirtual 135, 3) := by decide +kernel
theorem d_M_letterSize_71 : decode b_M_letterSize 71 = .ok (.ifCond .eq 7, 3) := by decide +kernel
theorem d_M_letterSize_74 : decode b_M_letterSize 74 = .ok (.iconst 3, 1) := by decide +kernel
theorem d_M_letterSize_75 : decode b_M_letterSize 75 = .ok (.goto 4, 3) := by decide +kernel
theorem d_M_letterSize_78 : decode b_M_letterSize 78 = .ok (.iconst 0, 1) := by decide +kernel
theorem d_M_letterSize_79 : decode b_M_letterSize 79 = .ok (.ireturn, 1) := by decide +kernel
theorem d_M_letterAt_0 : decode b_M_letterAt 0 = .ok (.aload_n 0, 1) := by decide +kernel
theorem d_M_letterAt_1 : decode b_M_letterAt 1 = .ok (.getfield 59, 3) := by decide +kernel
theorem d_M_letterAt_4 : decode b_M_letterAt 4 = .ok (.iload_n 1, 1) := by decide +kernel
theorem d_M_letterAt_5 : decode b_M_letterAt 5 = .ok (.iaload, 1) := by decide +kernel
theorem d_M_letterAt_6 : decode b_M_letterAt 6 = .ok (.istore_n 3, 1) := by decide +kernel
theorem d_M_letterAt_7 : decode b_M_letterAt 7 = .ok (.iload_n 2, 1) := by decide +kernel
theorem d_M_letterAt_8 : decode b_M_letterAt 8 = .ok (.iconst 1, 1) := by decide +kernel
theorem d_M_letterAt_9 : decode b_M_letterAt 9 = .ok (.if_icmp .ne 7, 3) := by decide +kernel
theorem d_M_letterAt_12 : decode b_M_letterAt 12 = .ok (.iload_n 3, 1) := by decide +kernel
theorem d_M_letterAt_13 : decode b_M_letterAt 13 = .ok (.goto 64, 3) := by decide +kernel
theorem d_M_letterAt_16 : decode b_M_letterAt 16 = .ok (.iload_n 2, 1) := by decide +kernel
theorem d_M_letterAt_17 : decode b_M_letterAt 17 = .ok (.iconst 2, 1) := by decide +kernel
theorem d_M_letterAt_18 : decode b_M_letterAt 18 = .ok (.if_icmp .ne 25, 3) := by decide +kernel
theorem d_M_letterAt_21 : decode b_M_letterAt 21 = .ok (.iload_n 3, 1) := by decide +kernel
theorem d_M_letterAt_22 : decode b_M_letterAt 22 = .ok (.bipush 31, 2) := by decide +kernel
theorem d_M_letterAt_24 : decode b_M_letterAt 24 = .ok (.iand, 1) := by decide +kernel
theorem d_M_letterAt_25 : decode b_M_letterAt 25 = .ok (.bipush 6, 2) := by decide +kernel
theorem d_M_letterAt_27 : decode b_M_letterAt 27 = .ok (.ishl, 1) := by decide +kernel
theorem d_M_letterAt_28 : decode b_M_letterAt 28 = .ok (.aload_n 0, 1) := by decide +kernel
theorem d_M_letterAt_29 : decode b_M_letterAt 29 = .ok (.getfield 59, 3) := by decide +kernel
theorem d_M_letterAt_32 : decode b_M_letterAt 32 = .ok (.iload_n 1, 1) := by decide +kernel
theorem d_M_letterAt_33 : decode b_M_letterAt 33 = .ok (.iconst 1, 1) := by decide +kernel
theorem d_M_letterAt_34 : decode b_M_letterAt 34 = .ok (.iadd, 1) := by decide +kernel
theorem d_M_letterAt_35 : decode b_M_letterAt 35 = .ok (.iaload, 1) := by decide +kernel
theorem d_M_letterAt_36 : decode b_M_letterAt 36 = .ok (.bipush 63, 2) := by decide +kernel
theorem d_M_letterAt_38 : decode b_M_letterAt 38 = .ok (.iand, 1) := by decide +kernel
theorem d_M_letterAt_39 : decode b_M_letterAt 39 = .ok (.ior, 1) := by decide +kernel
theorem d_M_letterAt_40 : decode b_M_letterAt 40 = .ok (.goto 37, 3) := by decide +kernel
theorem d_M_letterAt_43 : decode b_M_letterAt 43 = .ok (.iload_n 3, 1) := by decide +kernel
theorem d_M_letterAt_44 : decode b_M_letterAt 44 = .ok (.bipush 15, 2) := by decide +kernel
theorem d_M_letterAt_46 : decode b_M_letterAt 46 = .ok (.iand, 1) := by decide +kernel
theorem d_M_letterAt_47 : decode b_M_letterAt 47 = .ok (.bipush 12, 2) := by decide +kernel
theorem d_M_letterAt_49 : decode b_M_letterAt 49 = .ok (.ishl, 1) := by decide +kernel
theorem d_M_letterAt_50 : decode b_M_letterAt 50 = .ok (.aload_n 0, 1) := by decide +kernel
theorem d_M_letterAt_51 : decode b_M_letterAt 51 = .ok (.getfield 59, 3) := by decide +kernel
theorem d_M_letterAt_54 : decode b_M_letterAt 54 = .ok (.iload_n 1, 1) := by decide +kernel
theorem d_M_letterAt_55 : decode b_M_letterAt 55 = .ok (.iconst 1, 1) := by decide +kernel
theorem d_M_letterAt_56 : decode b_M_letterAt 56 = .ok (.iadd, 1) := by decide +kernel
theorem d_M_letterAt_57 : decode b_M_letterAt 57 = .ok (.iaload, 1) := by decide +kernel
theorem d_M_letterAt_58 : decode b_M_letterAt 58 = .ok (.bipush 63, 2) := by decide +kernel
theorem d_M_letterAt_60 : decode b_M_letterAt 60 = .ok (.iand, 1) := by decide +kernel
theorem d_M_letterAt_61 : decode b_M_letterAt 61 = .ok (.bipush 6, 2) := by decide +kernel
theorem d_M_letterAt_63 : decode b_M_letterAt 63 = .ok (.ishl, 1) := by decide +kernel
theorem d_M_letterAt_64 : decode b_M_letterAt 64 = .ok (.ior, 1) := by decide +kernel
theorem d_M_letterAt_65 : decode b_M_letterAt 65 = .ok (.aload_n 0, 1) := by decide +kernel
theorem d_M_letterAt_66 : decode b_M_letterAt 66 = .ok (.getfield 59, 3) := by decide +kernel
theorem d_M_letterAt_69 : decode b_M_letterAt 69 = .ok (.iload_n 1, 1) := by decide +kernel
theorem d_M_letterAt_70 : decode b_M_letterAt 70 = .ok (.iconst 2, 1) := by decide +kernel
theorem d_M_letterAt_71 : decode b_M_letterAt 71 = .ok (.iadd, 1) := by decide +kernel
theorem d_M_letterAt_72 : decode b_M_letterAt 72 = .ok (.iaload, 1) := by decide +kernel
theorem d_M_letterAt_73 : decode b_M_letterAt 73 = .ok (.bipush 63, 2) := by decide +kernel
theorem d_M_letterAt_75 : decode b_M_letterAt 75 = .ok (.iand, 1) := by decide +kernel
theorem d_M_letterAt_76 : decode b_M_letterAt 76 = .ok (.ior, 1) := by decide +kernel
theorem d_M_letterAt_77 : decode b_M_letterAt 77 = .ok (.ireturn, 1) := by decide +kernel
theorem d_M_text_0 : decode b_M_text 0 = .ok (.aload_n 0, 1) := by decide +kernel
theorem d_M_text_1 : decode b_M_text 1 = .ok (.iconst 0, 1) := by decide +kernel
theorem d_M_text_2 : decode b_M_text 2 = .ok (.putfield 123, 3) := by decide +kernel
theorem d_M_text_5 : decode b_M_text 5 = .ok (.aload_n 0, 1) := by decide +kernel
theorem d_M_text_6 : decode b_M_text 6 = .ok (.aload_n 0, 1) := by decide +kernel
theorem d_M_text_7 : decode b_M_text 7 = .ok (.getfield 75, 3) := by decide +kernel
theorem d_M_text_10 : decode b_M_text 10 = .ok (.ifCond .eq 7, 3) := by decide +kernel
theorem d_M_text_13 : decode b_M_text 13 = .ok (.iconst 1, 1) := by decide +kernel
theorem d_M_text_14 : decode b_M_text 14 = .ok (.goto 8, 3) := by decide +kernel
theorem d_M_text_17 : decode b_M_text 17 = .ok (.aload_n 0, 1) := by decide +kernel
theorem d_M_text_18 : decode b_M_text 18 = .ok (.iconst 2, 1) := by decide +kernel
theorem d_M_text_19 : decode b_M_text 19 = .ok (.invokevirtual 132, 3) := by decide +kernel
theorem d_M_text_22 : decode b_M_text 22 = .ok (.putfield 65, 3) := by decide +kernel
theorem d_M_text_25 : decode b_M_text 25 = .ok (.aload_n 0, 1) := by decide +kernel
theorem d_M_text_26 : decode b_M_text 26 = .ok (.getfield 65, 3) := by decide +kernel
theorem d_M_text_29 : decode b_M_text 29 = .ok (.ifCond .le 5, 3) := by decide +kernel
theorem d_M_text_32 : decode b_M_text 32 = .ok (.iconst 0, 1) := by decide +kernel
theorem d_M_text_33 : decode b_M_text 33 = .ok (.ireturn, 1) := by decide +kernel
theorem d_M_text_34 : decode b_M_text 34 = .ok (.sipush 256, 3) := by decide +kernel
theorem d_M_text_37 : decode b_M_text 37 = .ok (.aload_n 0, 1) := by decide +kernel
theorem d_M_text_38 : decode b_M_text 38 = .ok (.getfield 59, 3) := by decide +kernel
theorem d_M_text_41 : decode b_M_text 41 = .ok (.iconst 0, 1) := by decide +kernel
theorem d_M_text_42 : decode b_M_text 42 = .ok (.iaload, 1) := by decide +kernel
theorem d_M_text_43 : decode b_M_text 43 = .ok (.imul, 1) := by decide +kernel
theorem d_M_text_44 : decode b_M_text 44 = .ok (.aload_n 0, 1) := by decide +kernel
theorem d_M_text_45 : decode b_M_text 45 = .ok (.getfield 59, 3) := by decide +kernel
theorem d_M_text_48 : decode b_M_text 48 = .ok (.iconst 1, 1) := by decide +kernel
theorem d_M_text_49 : decode b_M_text 49 = .ok (.iaload, 1) := by decide +kernel
theorem d_M_text_50 : decode b_M_text 50 = .ok (.iadd, 1) := by decide +kernel
theorem d_M_text_51 : decode b_M_text 51 = .ok (.istore_n 1, 1) := by decide +kernel
theorem d_M_text_52 : decode b_M_text 52 = .ok (.aload_n 0, 1) := by decide +kernel
theorem d_M_text_53 : decode b_M_text 53 = .ok (.iload_n 1, 1) := by decide +kernel
theorem d_M_text_54 : decode b_M_text 54 = .ok (.bipush 118, 2) := by decide +kernel
theorem d_M_text_56 : decode b_M_text 56 = .ok (.if_icmp .le 7, 3) := by decide +kernel
theorem d_M_text_59 : decode b_M_text 59 = .ok (.iconst 3, 1) := by decide +kernel
theorem d_M_text_60 : decode b_M_text 60 = .ok (.goto 8, 3) := by decide +kernel
theorem d_M_text_63 : decode b_M_text 63 = .ok (.aload_n 0, 1) := by decide +kernel
theorem d_M_text_64 : decode b_M_text 64 = .ok (.iload_n 1, 1) := by decide +kernel
theorem d_M_text_65 : decode b_M_text 65 = .ok (.invokevirtual 132, 3) := by decide +kernel
theorem d_M_text_68 : decode b_M_text 68 = .ok (.putfield 65, 3) := by decide +kernel
theorem d_M_text_71 : decode b_M_text 71 = .ok (.aload_n 0, 1) := by decide +kernel
theorem d_M_text_72 : decode b_M_text 72 = .ok (.getfield 65, 3) := by decide +kernel
theorem d_M_text_75 : decode b_M_text 75 = .ok (.ifCond .le 5, 3) := by decide +kernel
theorem d_M_text_78 : decode b_M_text 78 = .ok (.iconst 0, 1) := by decide +kernel
theorem d_M_text_79 : decode b_M_text 79 = .ok (.ireturn, 1) := by decide +kernel
theorem d_M_text_80 : decode b_M_text 80 = .ok (.iconst 2, 1) := by decide +kernel
theorem d_M_text_81 : decode b_M_text 81 = .ok (.istore_n 2, 1) := by decide +kernel
theorem d_M_text_82 : decode b_M_text 82 = .ok (.iconst 1, 1) := by decide +kernel
theorem d_M_text_83 : decode b_M_text 83 = .ok (.istore_n 3, 1) := by decide +kernel
theorem d_M_text_84 : decode b_M_text 84 = .ok (.iload_n 2, 1) := by decide +kernel
theorem d_M_text_85 : decode b_M_text 85 = .ok (.aload_n 0, 1) := by decide +kernel
theorem d_M_text_86 : decode b_M_text 86 = .ok (.getfield 123, 3) := by decide +kernel
theorem d_M_text_89 : decode b_M_text 89 = .ok (.if_icmp .ge 20, 3) := by decide +kernel
theorem d_M_text_92 : decode b_M_text 92 = .ok (.iload_n 3, 1) := by decide +kernel
theorem d_M_text_93 : decode b_M_text 93 = .ok (.ifCond .le 16, 3) := by decide +kernel
theorem d_M_text_96 : decode b_M_text 96 = .ok (.aload_n 0, 1) := by decide +kernel
theorem d_M_text_97 : decode b_M_text 97 = .ok (.iload_n 2, 1) := by decide +kernel
theorem d_M_text_98 : decode b_M_text 98 = .ok (.invokevirtual 138, 3) := by decide +kernel
theorem d_M_text_101 : decode b_M_text 101 = .ok (.istore_n 3, 1) := by decide +kernel
theorem d_M_text_102 : decode b_M_text 102 = .ok (.iload_n 2, 1) := by decide +kernel
theorem d_M_text_103 : decode b_M_text 103 = .ok (.iload_n 3, 1) := by decide +kernel
theorem d_M_text_104 : decode b_M_text 104 = .ok (.iadd, 1) := by decide +kernel
theorem d_M_text_105 : decode b_M_text 105 = .ok (.istore_n 2, 1) := by decide +kernel
theorem d_M_text_106 : decode b_M_text 106 = .ok (.goto (-22), 3) := by decide +kernel
theorem d_M_text_109 : decode b_M_text 109 = .ok (.iload_n 3, 1) := by decide +kernel
theorem d_M_text_110 : decode b_M_text 110 = .ok (.ifCond .ne 10, 3) := by decide +kernel
theorem d_M_text_113 : decode b_M_text 113 = .ok (.aload_n 0, 1) := by decide +kernel
theorem d_M_text_114 : decode b_M_text 114 = .ok (.iconst 3, 1) := by decide +kernel
theorem d_M_text_115 : decode b_M_text 115 = .ok (.putfield 65, 3) := by decide +kernel
theorem d_M_text_118 : decode b_M_text 118 = .ok (.iconst 0, 1) := by decide +kernel
theorem d_M_text_119 : decode b_M_text 119 = .ok (.ireturn, 1) := by decide +kernel
theorem d_M_text_120 : decode b_M_text 120 = .ok (.aload_n 0, 1) := by decide +kernel
theorem d_M_text_121 : decode b_M_text 121 = .ok (.iconst 0, 1) := by decide +kernel
theorem d_M_text_122 : decode b_M_text 122 = .ok (.putfield 141, 3) := by decide +kernel
theorem d_M_text_125 : decode b_M_text 125 = .ok (.iconst 2, 1) := by decide +kernel
theorem d_M_text_126 : decode b_M_text 126 = .ok (.istore_n 2, 1) := by decide +kernel
theorem d_M_text_127 : decode b_M_text 127 = .ok (.iload_n 2, 1) := by decide +kernel
theorem d_M_text_128 : decode b_M_text 128 = .ok (.aload_n 0, 1) := by decide +kernel
theorem d_M_text_129 : decode b_M_text 129 = .ok (.getfield 123, 3) := by decide +kernel
theorem d_M_text_132 : decode b_M_text 132 = .ok (.if_icmp .ge 44, 3) := by decide +kernel
theorem d_M_text_135 : decode b_M_text 135 = .ok (.aload_n 0, 1) := by decide +kernel
theorem d_M_text_136 : decode b_M_text 136 = .ok (.iload_n 2, 1) := by decide +kernel
theorem d_M_text_137 : decode b_M_text 137 = .ok (.invokevirtual 138, 3) := by decide +kernel
theorem d_M_text_140 : decode b_M_text 140 = .ok (.istore 4, 2) := by decide +kernel
theorem d_M_text_142 : decode b_M_text 142 = .ok (.aload_n 0, 1) := by decide +kernel
theorem d_M_text_143 : decode b_M_text 143 = .ok (.getfield 62, 3) := by decide +kernel
theorem d_M_text_146 : decode b_M_text 146 = .ok (.aload_n 0, 1) := by decide +kernel
theorem d_M_text_147 : decode b_M_text 147 = .ok (.getfield 141, 3) := by decide +kernel
theorem d_M_text_150 : decode b_M_text 150 = .ok (.aload_n 0, 1) := by decide +kernel
theorem d_M_text_151 : decode b_M_text 151 = .ok (.iload_n 2, 1) := by decide +kernel
theorem d_M_text_152 : decode b_M_text 152 = .ok (.iload 4, 2) := by decide +kernel
theorem d_M_text_154 : decode b_M_text 154 = .ok (.invokevirtual 144, 3) := by decide +kernel
theorem d_M_text_157 : decode b_M_text 157 = .ok (.iastore, 1) := by decide +kernel
theorem d_M_text_158 : decode b_M_text 158 = .ok (.aload_n 0, 1) := by decide +kernel
theorem d_M_text_159 : decode b_M_text 159 = .ok (.dup, 1) := by decide +kernel
theorem d_M_text_160 : decode b_M_text 160 = .ok (.getfield 141, 3) := by decide +kernel
theorem d_M_text_163 : decode b_M_text 163 = .ok (.iconst 1, 1) := by decide +kernel
theorem d_M_text_164 : decode b_M_text 164 = .ok (.iadd, 1) := by decide +kernel
theorem d_M_text_165 : decode b_M_text 165 = .ok (.putfield 141, 3) := by decide +kernel
theorem d_M_text_168 : decode b_M_text 168 = .ok (.iload_n 2, 1) := by decide +kernel
theorem d_M_text_169 : decode b_M_text 169 = .ok (.iload 4, 2) := by decide +kernel
theorem d_M_text_171 : decode b_M_text 171 = .ok (.iadd, 1) := by decide +kernel
theorem d_M_text_172 : decode b_M_text 172 = .ok (.istore_n 2, 1) := by decide +kernel
theorem d_M_text_173 : decode b_M_text 173 = .ok (.goto (-46), 3) := by decide +kernel
theorem d_M_text_176 : decode b_M_text 176 = .ok (.aload_n 0, 1) := by decide +kernel
theorem d_M_text_177 : decode b_M_text 177 = .ok (.getfield 141, 3) := by decide +kernel
theorem d_M_text_180 : decode b_M_text 180 = .ok (.ireturn, 1) := by decide +kernel
theorem fl_M_123 : fl_Ok "StreamTowerModel" 123 "StreamTowerModel" "bagged" "I" "StreamTowerModel" [8] 25 false (.int) := ⟨wd_737, by decide +kernel, Or.inl rfl, fun t ht => by obtain rfl := List.mem_singleton.mp ht; exact ⟨_, _, _, rfl, by decide, rfl⟩⟩
theorem md_M_putBag : md_Ok y_M_putBag (.code y_M_putBag b_M_putBag 2 none) 2 := ⟨wd_868, wd_5, ⟨by decide, by decide⟩, Or.inl ⟨_, _, rfl⟩⟩
theorem ml_M_putBag : (parseMethodDescriptor y_M_putBag.desc).map (fun d => d.parameters.length) = some 0 := by decide +kernel
theorem md_M_read : md_Ok y_M_read (.code y_M_read b_M_read 1 (some .int)) 1 := ⟨wd_820, wd_5, ⟨by decide, by decide⟩, Or.inl ⟨_, _, rfl⟩⟩
theorem ml_M_read : (parseMethodDescriptor y_M_read.desc).map (fun d => d.parameters.length) = some 0 := by decide +kernel
theorem md_M_some : md_Ok y_M_some (.code y_M_some b_M_some 2 (some .int)) 2 := ⟨wd_872, wd_5, ⟨by decide, by decide⟩, Or.inl ⟨_, _, rfl⟩⟩
theorem ml_M_some : (parseMethodDescriptor y_M_some.desc).map (fun d => d.parameters.length) = some 1 := by decide +kernel
theorem md_M_fill : md_Ok y_M_fill (.code y_M_fill b_M_fill 3 (some .int)) 3 := ⟨wd_880, wd_5, ⟨by decide, by decide⟩, Or.inl ⟨_, _, rfl⟩⟩
theorem ml_M_fill : (parseMethodDescriptor y_M_fill.desc).map (fun d => d.parameters.length) = some 1 := by decide +kernel
theorem md_M_full : md_Ok y_M_full (.code y_M_full b_M_full 3 none) 3 := ⟨wd_876, wd_5, ⟨by decide, by decide⟩, Or.inl ⟨_, _, rfl⟩⟩
theorem ml_M_full : (parseMethodDescriptor y_M_full.desc).map (fun d => d.parameters.length) = some 1 := by decide +kernel
theorem md_M_skip : md_Ok y_M_skip (.code y_M_skip b_M_skip 4 (some .int)) 4 := ⟨wd_884, wd_5, ⟨by decide, by decide⟩, Or.inl ⟨_, _, rfl⟩⟩
theorem ml_M_skip : (parseMethodDescriptor y_M_skip.desc).map (fun d => d.parameters.length) = some 1 := by decide +kernel
theorem md_M_number : md_Ok y_M_number (.code y_M_number b_M_number 6 (some .long)) 6 := ⟨wd_888, wd_5, ⟨by decide, by decide⟩, Or.inl ⟨_, _, rfl⟩⟩
theorem ml_M_number : (parseMethodDescriptor y_M_number.desc).map (fun d => d.parameters.length) = some 1 := by decide +kernel
theorem md_M_further : md_Ok y_M_further (.code y_M_further b_M_further 2 (some .boolean)) 2 := ⟨wd_900, wd_5, ⟨by decide, by decide⟩, Or.inl ⟨_, _, rfl⟩⟩
theorem ml_M_further : (parseMethodDescriptor y_M_further.desc).map (fun d => d.parameters.length) = some 1 := by decide +kernel
theorem md_M_letterSize : md_Ok y_M_letterSize (.code y_M_letterSize b_M_letterSize 3 (some .int)) 3 := ⟨wd_896, wd_5, ⟨by decide, by decide⟩, Or.inl ⟨_, _, rfl⟩⟩
theorem ml_M_letterSize : (parseMethodDescriptor y_M_letterSize.desc).map (fun d => d.parameters.length) = some 1 := by decide +kernel
theorem md_M_letterAt : md_Ok y_M_letterAt (.code y_M_letterAt b_M_letterAt 4 (some .int)) 4 := ⟨wd_904, wd_5, ⟨by decide, by decide⟩, Or.inl ⟨_, _, rfl⟩⟩
theorem ml_M_letterAt : (parseMethodDescriptor y_M_letterAt.desc).map (fun d => d.parameters.length) = some 2 := by decide +kernel
theorem fl_M_141 : fl_Ok "StreamTowerModel" 141 "StreamTowerModel" "lettered" "I" "StreamTowerModel" [8] 27 false (.int) := ⟨wd_739, by decide +kernel, Or.inl rfl, fun t ht => by obtain rfl := List.mem_singleton.mp ht; exact ⟨_, _, _, rfl, by decide, rfl⟩⟩
theorem md_M_text : md_Ok y_M_text (.code y_M_text b_M_text 5 (some .int)) 5 := ⟨wd_892, wd_5, ⟨by decide, by decide⟩, Or.inl ⟨_, _, rfl⟩⟩
theorem ml_M_text : (parseMethodDescriptor y_M_text.desc).map (fun d => d.parameters.length) = some 0 := by decide +kernel
def f_M_putBag_b2 : Nat → Nat → Int32 → Hs_t → Rs_t
  | 0, _, _, _ => none
  | n + 1, t0, x1, h0 => (fd_I [8] 20 h0 t0).bind fun v1 => if v1 ≤ x1 then (re_V h0) else ((fd_A [8] 24 h0 t0).bind fun v2 => (fd_I [8] 25 h0 t0).bind fun v3 => (fd_A [8] 19 h0 t0).bind fun v4 => (ar_I h0 v4 x1).bind fun v5 => (as_I h0 v2 v3 v5).bind fun h1 => (fd_I [8] 25 h1 t0).bind fun v6 => (pt_V [8] 25 h1 t0 (.int (v6 + 1))).bind fun h2 => (f_M_putBag_b2 n) t0 (x1 + 1) h2)
def f_M_putBag (t0 : Nat) (h0 : Hs_t) : Rs_t := f_M_putBag_b2 fu_N t0 0 h0
set_option maxRecDepth 100000 in
set_option maxHeartbeats 4000000 in
theorem k_M_putBag_b2 {p : Program} {l : Launch} {e : Env} {s : State} {m : MethodId} {args : Array Value} {below : List Frame} {meth : Method} {c : Code} {s0 : State} {A0 : Array Value} {G : Gx_t} {r : Outcome × Hs_t} {rm : Room} (hc : Cx_t p s m meth c s0 A0 l G y_M_putBag b_M_putBag 2 none []) (hrm : rm_Ok 0 0 0 0 rm) : ∀ (n : Nat) (t0 : Nat) (x1 : Int32) (h0 : Hs_t) (H : Heap) (locs : List Loc) (ls : Array Slot), Rp_h G s0.heap h0 H → Lo_k s0 locs → lv_has ls 2 [(0, .ref t0), (1, .int x1)] → f_M_putBag_b2 n t0 x1 h0 = some r → W p l e rm s m args below meth c H locs 0 0 (xq_MQ G s0 below r s rm.cells rm.slots) (F0 m 2 ls []) := by
  have hx := hc.x
  have hb := hc.b
  obtain ⟨hm1, hm2, hm3, hm4⟩ := id hrm
  intro n
  induction n with
  | zero =>
    intro t0 x1 h0 H locs ls hR hLo hl heq
    unfold f_M_putBag_b2 at heq
    cases heq
  | succ n hr2 =>
    intro t0 x1 h0 H locs ls hR hLo hl heq
    unfold f_M_putBag_b2 at heq
    refine lv_iload_n hx hb d_M_putBag_2 rfl (lv_at hl 1 rfl) ?_
    refine lv_aload_n hx hb d_M_putBag_3 rfl (lv_at hl 0 rfl) ?_
    refine x_gI hc hR fl_M_86 heq d_M_putBag_4 (fun v1 heq => ?_)
    refine lv_icmp_ge (tgt := 41) hx hb d_M_putBag_7 rfl (fun hq => ?_) (fun hq => ?_)
    · rw [if_pos hq] at heq
      exact x_vret hc hR hLo ⟨by omega, by omega⟩ heq d_M_putBag_41
    · rw [if_neg hq] at heq
      refine lv_aload_n hx hb d_M_putBag_10 rfl (lv_at hl 0 rfl) ?_
      refine x_gA hc hR fl_M_59 heq d_M_putBag_11 (fun v2 heq => ?_)
      refine lv_aload_n hx hb d_M_putBag_14 rfl (lv_at hl 0 rfl) ?_
      refine x_gI hc hR fl_M_123 heq d_M_putBag_15 (fun v3 heq => ?_)
      refine lv_aload_n hx hb d_M_putBag_18 rfl (lv_at hl 0 rfl) ?_
      refine x_gA hc hR fl_M_56 heq d_M_putBag_19 (fun v4 heq => ?_)
      refine lv_iload_n hx hb d_M_putBag_22 rfl (lv_at hl 1 rfl) ?_
      refine x_aI hc hR heq d_M_putBag_23 (fun v5 heq => ?_)
      refine x_sI hc hR hLo heq d_M_putBag_24 (fun h1 H locs hR hLo heq => ?_)
      refine lv_aload_n hx hb d_M_putBag_25 rfl (lv_at hl 0 rfl) ?_
      refine lv_dup hx hb d_M_putBag_26 rfl ?_
      refine x_gI hc hR fl_M_123 heq d_M_putBag_27 (fun v6 heq => ?_)
      refine lv_iconst (v := 1) hx hb d_M_putBag_30 (by decide) ?_
      refine lv_iadd hx hb d_M_putBag_31 ?_
      refine x_pV hc hR hLo fl_M_123 (Or.inl rfl) rfl rfl heq d_M_putBag_32 (fun h2 H locs hR hLo heq => ?_)
      refine lv_iinc (k := 1) (v := (x1 + 1)) (lv' := [(1, .int (x1 + 1)), (0, .ref t0)]) hx hb d_M_putBag_35 hl rfl rfl (by decide) rfl (fun ls hl => ?_)
      refine lv_goto (tgt := 2) hx hb d_M_putBag_38 rfl ?_
      refine W.widen (k := 0) (n := 0) (by omega) (by omega) ?_
      exact hr2 t0 (x1 + 1) h2 H locs ls hR hLo (lv_sub hl [1, 0] rfl) heq
set_option maxRecDepth 100000 in
set_option maxHeartbeats 4000000 in
theorem c_M_putBag {l : Launch} {s0 : State} {A0 : Array Value} {G : Gx_t} (hG : G_0 l s0 A0 G) (rm : Room) (hrm : rm_Ok 0 0 0 0 rm) (t0 : Nat) (h0 : Hs_t) (r : Outcome × Hs_t) (heq : f_M_putBag t0 h0 = some r) : M_X G s0 l y_M_putBag (.code y_M_putBag b_M_putBag 2 none) rm [.ref t0] h0 r := by
  refine M_X.of (by decide) hG (fun p e s m below meth c H hc hR => ?_)
  have hx := hc.x
  have hb := hc.b
  obtain ⟨hm1, hm2, hm3, hm4⟩ := id hrm
  have hLo : Lo_k s0 [] := fun _ hq => absurd hq List.not_mem_nil
  have hl := lv_entry ([.ref t0]) (n := 2) (Nat.le_of_ble_eq_true rfl)
  rw [lg_entry_eq]
  generalize (lg_sl ([.ref t0]) ++ List.replicate (2 - (lg_sl ([.ref t0])).length) Slot.unset).toArray = ls at hl ⊢
  have hl : lv_has ls 2 [(0, .ref t0)] := hl
  generalize hle : ([] : List Loc) = locs at hLo ⊢
  unfold f_M_putBag at heq
  refine lv_iconst (v := 0) hx hb d_M_putBag_0 (by decide) ?_
  refine lv_istore_n (lv' := [(1, .int 0), (0, .ref t0)]) hx hb d_M_putBag_1 rfl hl (by decide) rfl (fun ls hl => ?_)
  refine W.widen (k := 0) (n := 0) (by omega) (by omega) ?_
  exact k_M_putBag_b2 hc hrm fu_N t0 0 h0 H locs ls hR hLo (lv_sub hl [1, 0] rfl) heq
def rm_M_putBag : Room := { frames := 0, cells := 0, slots := 0, locals := 0 }
theorem rk_M_putBag : rm_Ok 0 0 0 0 rm_M_putBag := ⟨Nat.le_refl _, Nat.le_refl _, Nat.le_refl _, Nat.le_refl _⟩
def f_M_read_b59 (sv0 : Int32) (h0 : Hs_t) : Rs_t := re_I sv0 h0
def f_M_read_b26 (t0 : Nat) (sv0 : Int32) (sv1 : Nat) (h0 : Hs_t) : Rs_t := (pt_V [8] 0 h0 sv1 (.int sv0)).bind fun h3 => (fd_I [8] 0 h3 t0).bind fun v3 => if v3 ≤ 0 then ((ck_T [8] h3 t0).bind fun _ => bd_V (f_M_putBag t0 h3) (fun h4 => (fd_I [8] 20 h4 t0).bind fun v4 => if v4 = 0 then (f_M_read_b59 (-1) h4) else ((fd_A [8] 19 h4 t0).bind fun v5 => (ar_I h4 v5 0).bind fun v6 => f_M_read_b59 v6 h4))) else (re_I 0 h3)
def f_M_read_b21 (t0 : Nat) (sv0 : Nat) (h0 : Hs_t) : Rs_t := f_M_read_b26 t0 1 sv0 h0
def f_M_read (t0 : Nat) (h0 : Hs_t) : Rs_t := (pt_V [8] 25 h0 t0 (.int 0)).bind fun h1 => (fd_I [8] 21 h1 t0).bind fun v1 => if v1 = 0 then ((ck_T [8] h1 t0).bind fun _ => bd_I (f_M_reads t0 1 h1) (fun v2 h2 => if v2 = 0 then (f_M_read_b21 t0 t0 h2) else (f_M_read_b26 t0 0 t0 h2))) else (f_M_read_b21 t0 t0 h1)
set_option maxRecDepth 100000 in
set_option maxHeartbeats 4000000 in
theorem k_M_read_b59 {p : Program} {l : Launch} {e : Env} {s : State} {m : MethodId} {args : Array Value} {below : List Frame} {meth : Method} {c : Code} {s0 : State} {A0 : Array Value} {G : Gx_t} {r : Outcome × Hs_t} {rm : Room} (hc : Cx_t p s m meth c s0 A0 l G y_M_read b_M_read 1 (some .int) []) (hrm : rm_Ok 0 0 5 116 rm) : ∀ (sv0 : Int32) (h0 : Hs_t) (H : Heap) (locs : List Loc) (ls : Array Slot), Rp_h G s0.heap h0 H → Lo_k s0 locs → lv_has ls 1 [] → f_M_read_b59 sv0 h0 = some r → W p l e rm s m args below meth c H locs 0 0 (xq_MQ G s0 below r s rm.cells rm.slots) (F0 m 59 ls [.int sv0]) := by
  have hx := hc.x
  have hb := hc.b
  obtain ⟨hm1, hm2, hm3, hm4⟩ := id hrm
  intro sv0 h0 H locs ls hR hLo hl heq
  unfold f_M_read_b59 at heq
  exact x_iret hc hR hLo ⟨by omega, by omega⟩ heq d_M_read_59
set_option maxRecDepth 100000 in
set_option maxHeartbeats 4000000 in
theorem k_M_read_b26 {p : Program} {l : Launch} {e : Env} {s : State} {m : MethodId} {args : Array Value} {below : List Frame} {meth : Method} {c : Code} {s0 : State} {A0 : Array Value} {G : Gx_t} {r : Outcome × Hs_t} {rm : Room} (hc : Cx_t p s m meth c s0 A0 l G y_M_read b_M_read 1 (some .int) []) (hrm : rm_Ok 0 0 5 116 rm) : ∀ (t0 : Nat) (sv0 : Int32) (sv1 : Nat) (h0 : Hs_t) (H : Heap) (locs : List Loc) (ls : Array Slot), Rp_h G s0.heap h0 H → Lo_k s0 locs → lv_has ls 1 [(0, .ref t0)] → f_M_read_b26 t0 sv0 sv1 h0 = some r → W p l e rm s m args below meth c H locs 0 0 (xq_MQ G s0 below r s rm.cells rm.slots) (F0 m 26 ls [.int sv0, .ref sv1]) := by
  have hx := hc.x
  have hb := hc.b
  obtain ⟨hm1, hm2, hm3, hm4⟩ := id hrm
  intro t0 sv0 sv1 h0 H locs ls hR hLo hl heq
  unfold f_M_read_b26 at heq
  refine x_pV hc hR hLo fl_M_65 (Or.inl rfl) rfl rfl heq d_M_read_26 (fun h3 H locs hR hLo heq => ?_)
  refine lv_aload_n hx hb d_M_read_29 rfl (lv_at hl 0 rfl) ?_
  refine x_gI hc hR fl_M_65 heq d_M_read_30 (fun v3 heq => ?_)
  refine lv_if_le (tgt := 38) hx hb d_M_read_33 rfl (fun hq => ?_) (fun hq => ?_)
  · rw [if_pos hq] at heq
    refine lv_aload_n hx hb d_M_read_38 rfl (lv_at hl 0 rfl) ?_
    refine x_ck heq (fun tt fs ha ht heq => ?_)
    obtain rfl : tt = 8 := by simpa using ht
    refine x_bV (mc := 0) (ms := 0) (st := []) hc hLo heq ⟨by omega, by omega⟩ (fun r9 h9 => x_runV hc (c_M_putBag hc.g rm_M_putBag rk_M_putBag _ _ _ h9) md_M_putBag hR ha rfl wd_865 wd_867 sp_22 hl.1 ml_M_putBag rfl (Nat.le_of_ble_eq_true rfl) d_M_read_39 ⟨by show 0 + 1 ≤ _; omega, by show 8 + (2 + 11) + (0) ≤ _; omega⟩ ⟨by show 0 + 0 ≤ _; omega, by show 0 + 0 ≤ _; omega⟩) (fun h4 H locs hR hLo heq => ?_)
    refine lv_aload_n hx hb d_M_read_42 rfl (lv_at hl 0 rfl) ?_
    refine x_gI hc hR fl_M_86 heq d_M_read_43 (fun v4 heq => ?_)
    refine lv_if_ne (tgt := 53) hx hb d_M_read_46 rfl (fun hq => ?_) (fun hq => ?_)
    · rw [if_neg hq] at heq
      refine lv_aload_n hx hb d_M_read_53 rfl (lv_at hl 0 rfl) ?_
      refine x_gA hc hR fl_M_56 heq d_M_read_54 (fun v5 heq => ?_)
      refine lv_iconst (v := 0) hx hb d_M_read_57 (by decide) ?_
      refine x_aI hc hR heq d_M_read_58 (fun v6 heq => ?_)
      refine W.widen (k := 0) (n := 0) (by omega) (by omega) ?_
      exact k_M_read_b59 hc hrm v6 h4 H locs ls hR hLo (lv_sub hl [] rfl) heq
    · rw [if_pos hq] at heq
      refine lv_iconst (v := (-1)) hx hb d_M_read_49 (by decide) ?_
      refine lv_goto (tgt := 59) hx hb d_M_read_50 rfl ?_
      refine W.widen (k := 0) (n := 0) (by omega) (by omega) ?_
      exact k_M_read_b59 hc hrm (-1) h4 H locs ls hR hLo (lv_sub hl [] rfl) heq
  · rw [if_neg hq] at heq
    refine lv_iconst (v := 0) hx hb d_M_read_36 (by decide) ?_
    exact x_iret hc hR hLo ⟨by omega, by omega⟩ heq d_M_read_37
set_option maxRecDepth 100000 in
set_option maxHeartbeats 4000000 in
theorem k_M_read_b21 {p : Program} {l : Launch} {e : Env} {s : State} {m : MethodId} {args : Array Value} {below : List Frame} {meth : Method} {c : Code} {s0 : State} {A0 : Array Value} {G : Gx_t} {r : Outcome × Hs_t} {rm : Room} (hc : Cx_t p s m meth c s0 A0 l G y_M_read b_M_read 1 (some .int) []) (hrm : rm_Ok 0 0 5 116 rm) : ∀ (t0 : Nat) (sv0 : Nat) (h0 : Hs_t) (H : Heap) (locs : List Loc) (ls : Array Slot), Rp_h G s0.heap h0 H → Lo_k s0 locs → lv_has ls 1 [(0, .ref t0)] → f_M_read_b21 t0 sv0 h0 = some r → W p l e rm s m args below meth c H locs 0 0 (xq_MQ G s0 below r s rm.cells rm.slots) (F0 m 21 ls [.ref sv0]) := by
  have hx := hc.x
  have hb := hc.b
  obtain ⟨hm1, hm2, hm3, hm4⟩ := id hrm
  intro t0 sv0 h0 H locs ls hR hLo hl heq
  unfold f_M_read_b21 at heq
  refine lv_iconst (v := 1) hx hb d_M_read_21 (by decide) ?_
  refine lv_goto (tgt := 26) hx hb d_M_read_22 rfl ?_
  refine W.widen (k := 0) (n := 0) (by omega) (by omega) ?_
  exact k_M_read_b26 hc hrm t0 1 sv0 h0 H locs ls hR hLo (lv_sub hl [0] rfl) heq
set_option maxRecDepth 100000 in
set_option maxHeartbeats 4000000 in
theorem c_M_read {l : Launch} {s0 : State} {A0 : Array Value} {G : Gx_t} (hG : G_0 l s0 A0 G) (rm : Room) (hrm : rm_Ok 0 0 5 116 rm) (t0 : Nat) (h0 : Hs_t) (r : Outcome × Hs_t) (heq : f_M_read t0 h0 = some r) : M_X G s0 l y_M_read (.code y_M_read b_M_read 1 (some .int)) rm [.ref t0] h0 r := by
  refine M_X.of (by decide) hG (fun p e s m below meth c H hc hR => ?_)
  have hx := hc.x
  have hb := hc.b
  obtain ⟨hm1, hm2, hm3, hm4⟩ := id hrm
  have hLo : Lo_k s0 [] := fun _ hq => absurd hq List.not_mem_nil
  have hl := lv_entry ([.ref t0]) (n := 1) (Nat.le_of_ble_eq_true rfl)
  rw [lg_entry_eq]
  generalize (lg_sl ([.ref t0]) ++ List.replicate (1 - (lg_sl ([.ref t0])).length) Slot.unset).toArray = ls at hl ⊢
  have hl : lv_has ls 1 [(0, .ref t0)] := hl
  generalize hle : ([] : List Loc) = locs at hLo ⊢
  unfold f_M_read at heq
  refine lv_aload_n hx hb d_M_read_0 rfl (lv_at hl 0 rfl) ?_
  refine lv_iconst (v := 0) hx hb d_M_read_1 (by decide) ?_
  refine x_pV hc hR hLo fl_M_123 (Or.inl rfl) rfl rfl heq d_M_read_2 (fun h1 H locs hR hLo heq => ?_)
  refine lv_aload_n hx hb d_M_read_5 rfl (lv_at hl 0 rfl) ?_
  refine lv_aload_n hx hb d_M_read_6 rfl (lv_at hl 0 rfl) ?_
  refine x_gI hc hR fl_M_75 heq d_M_read_7 (fun v1 heq => ?_)
  refine lv_if_ne (tgt := 21) hx hb d_M_read_10 rfl (fun hq => ?_) (fun hq => ?_)
  · rw [if_neg hq] at heq
    refine W.widen (k := 0) (n := 0) (by omega) (by omega) ?_
    exact k_M_read_b21 hc hrm t0 t0 h1 H locs ls hR hLo (lv_sub hl [0] rfl) heq
  · rw [if_pos hq] at heq
    refine lv_aload_n hx hb d_M_read_13 rfl (lv_at hl 0 rfl) ?_
    refine lv_iconst (v := 1) hx hb d_M_read_14 (by decide) ?_
    refine x_ck heq (fun tt fs ha ht heq => ?_)
    obtain rfl : tt = 8 := by simpa using ht
    refine x_bI (mc := 0) (ms := 0) (st := [.ref t0]) hc hLo heq ⟨by omega, by omega⟩ (fun r9 h9 => x_runV hc (c_M_reads hc.g rm_M_reads rk_M_reads _ _ _ _ h9) md_M_reads hR ha rfl wd_821 wd_823 sp_11 hl.1 ml_M_reads rfl (Nat.le_of_ble_eq_true rfl) d_M_read_15 ⟨by show 4 + 1 ≤ _; omega, by show 8 + (3 + 11) + (94) ≤ _; omega⟩ ⟨by show 0 + 0 ≤ _; omega, by show 0 + 0 ≤ _; omega⟩) (fun v2 h2 H locs hR hLo heq => ?_)
    refine lv_if_ne (tgt := 25) hx hb d_M_read_18 rfl (fun hq => ?_) (fun hq => ?_)
    · rw [if_neg hq] at heq
      refine lv_iconst (v := 0) hx hb d_M_read_25 (by decide) ?_
      refine W.widen (k := 0) (n := 0) (by omega) (by omega) ?_
      exact k_M_read_b26 hc hrm t0 0 t0 h2 H locs ls hR hLo (lv_sub hl [0] rfl) heq
    · rw [if_pos hq] at heq
      refine W.widen (k := 0) (n := 0) (by omega) (by omega) ?_
      exact k_M_read_b21 hc hrm t0 t0 h2 H locs ls hR hLo (lv_sub hl [0] rfl) heq
def rm_M_read : Room := { frames := 5, cells := 0, slots := 0, locals := 116 }
theorem rk_M_read : rm_Ok 0 0 5 116 rm_M_read := ⟨Nat.le_refl _, Nat.le_refl _, Nat.le_refl _, Nat.le_refl _⟩
def f_M_some_b76 (sv0 : Int32) (h0 : Hs_t) : Rs_t := re_I sv0 h0
def f_M_some_b45 (t0 : Nat) (sv0 : Int32) (sv1 : Nat) (h0 : Hs_t) : Rs_t := (pt_V [8] 0 h0 sv1 (.int sv0)).bind fun h3 => (fd_I [8] 0 h3 t0).bind fun v3 => if v3 ≤ 0 then ((ck_T [8] h3 t0).bind fun _ => bd_V (f_M_putBag t0 h3) (fun h4 => (fd_I [8] 20 h4 t0).bind fun v4 => if v4 = 0 then (f_M_some_b76 (-1) h4) else ((fd_I [8] 20 h4 t0).bind fun v5 => f_M_some_b76 v5 h4))) else (re_I 0 h3)
def f_M_some_b28 (t0 : Nat) (sv0 : Nat) (h0 : Hs_t) : Rs_t := f_M_some_b45 t0 1 sv0 h0
def f_M_some (t0 : Nat) (x1 : Int32) (h0 : Hs_t) : Rs_t := (pt_V [8] 25 h0 t0 (.int 0)).bind fun h1 => (fd_I [8] 21 h1 t0).bind fun v1 => if v1 = 0 then (if x1 < 1 then (f_M_some_b28 t0 t0 h1) else (if x1 ≤ 60 then ((ck_T [8] h1 t0).bind fun _ => bd_I (f_M_reads t0 x1 h1) (fun v2 h2 => if v2 = 0 then (f_M_some_b45 t0 2 t0 h2) else (f_M_some_b45 t0 0 t0 h2))) else (f_M_some_b28 t0 t0 h1))) else (f_M_some_b45 t0 2 t0 h1)
set_option maxRecDepth 100000 in
set_option maxHeartbeats 4000000 in
theorem k_M_some_b76 {p : Program} {l : Launch} {e : Env} {s : State} {m : MethodId} {args : Array Value} {below : List Frame} {meth : Method} {c : Code} {s0 : State} {A0 : Array Value} {G : Gx_t} {r : Outcome × Hs_t} {rm : Room} (hc : Cx_t p s m meth c s0 A0 l G y_M_some b_M_some 2 (some .int) []) (hrm : rm_Ok 0 0 5 116 rm) : ∀ (sv0 : Int32) (h0 : Hs_t) (H : Heap) (locs : List Loc) (ls : Array Slot), Rp_h G s0.heap h0 H → Lo_k s0 locs → lv_has ls 2 [] → f_M_some_b76 sv0 h0 = some r → W p l e rm s m args below meth c H locs 0 0 (xq_MQ G s0 below r s rm.cells rm.slots) (F0 m 76 ls [.int sv0]) := by
  have hx := hc.x
  have hb := hc.b
  obtain ⟨hm1, hm2, hm3, hm4⟩ := id hrm
  intro sv0 h0 H locs ls hR hLo hl heq
  unfold f_M_some_b76 at heq
  exact x_iret hc hR hLo ⟨by omega, by omega⟩ heq d_M_some_76
set_option maxRecDepth 100000 in
set_option maxHeartbeats 4000000 in
theorem k_M_some_b45 {p : Program} {l : Launch} {e : Env} {s : State} {m : MethodId} {args : Array Value} {below : List Frame} {meth : Method} {c : Code} {s0 : State} {A0 : Array Value} {G : Gx_t} {r : Outcome × Hs_t} {rm : Room} (hc : Cx_t p s m meth c s0 A0 l G y_M_some b_M_some 2 (some .int) []) (hrm : rm_Ok 0 0 5 116 rm) : ∀ (t0 : Nat) (sv0 : Int32) (sv1 : Nat) (h0 : Hs_t) (H : Heap) (locs : List Loc) (ls : Array Slot), Rp_h G s0.heap h0 H → Lo_k s0 locs → lv_has ls 2 [(0, .ref t0)] → f_M_some_b45 t0 sv0 sv1 h0 = some r → W p l e rm s m args below meth c H locs 0 0 (xq_MQ G s0 below r s rm.cells rm.slots) (F0 m 45 ls [.int sv0, .ref sv1]) := by
  have hx := hc.x
  have hb := hc.b
  obtain ⟨hm1, hm2, hm3, hm4⟩ := id hrm
  intro t0 sv0 sv1 h0 H locs ls hR hLo hl heq
  unfold f_M_some_b45 at heq
  refine x_pV hc hR hLo fl_M_65 (Or.inl rfl) rfl rfl heq d_M_some_45 (fun h3 H locs hR hLo heq => ?_)
  refine lv_aload_n hx hb d_M_some_48 rfl (lv_at hl 0 rfl) ?_
  refine x_gI hc hR fl_M_65 heq d_M_some_49 (fun v3 heq => ?_)
  refine lv_if_le (tgt := 57) hx hb d_M_some_52 rfl (fun hq => ?_) (fun hq => ?_)
  · rw [if_pos hq] at heq
    refine lv_aload_n hx hb d_M_some_57 rfl (lv_at hl 0 rfl) ?_
    refine x_ck heq (fun tt fs ha ht heq => ?_)
    obtain rfl : tt = 8 := by simpa using ht
    refine x_bV (mc := 0) (ms := 0) (st := []) hc hLo heq ⟨by omega, by omega⟩ (fun r9 h9 => x_runV hc (c_M_putBag hc.g rm_M_putBag rk_M_putBag _ _ _ h9) md_M_putBag hR ha rfl wd_865 wd_867 sp_22 hl.1 ml_M_putBag rfl (Nat.le_of_ble_eq_true rfl) d_M_some_58 ⟨by show 0 + 1 ≤ _; omega, by show 8 + (2 + 11) + (0) ≤ _; omega⟩ ⟨by show 0 + 0 ≤ _; omega, by show 0 + 0 ≤ _; omega⟩) (fun h4 H locs hR hLo heq => ?_)
    refine lv_aload_n hx hb d_M_some_61 rfl (lv_at hl 0 rfl) ?_
    refine x_gI hc hR fl_M_86 heq d_M_some_62 (fun v4 heq => ?_)
    refine lv_if_ne (tgt := 72) hx hb d_M_some_65 rfl (fun hq => ?_) (fun hq => ?_)
    · rw [if_neg hq] at heq
      refine lv_aload_n hx hb d_M_some_72 rfl (lv_at hl 0 rfl) ?_
      refine x_gI hc hR fl_M_86 heq d_M_some_73 (fun v5 heq => ?_)
      refine W.widen (k := 0) (n := 0) (by omega) (by omega) ?_
      exact k_M_some_b76 hc hrm v5 h4 H locs ls hR hLo (lv_sub hl [] rfl) heq
    · rw [if_pos hq] at heq
      refine lv_iconst (v := (-1)) hx hb d_M_some_68 (by decide) ?_
      refine lv_goto (tgt := 76) hx hb d_M_some_69 rfl ?_
      refine W.widen (k := 0) (n := 0) (by omega) (by omega) ?_
      exact k_M_some_b76 hc hrm (-1) h4 H locs ls hR hLo (lv_sub hl [] rfl) heq
  · rw [if_neg hq] at heq
    refine lv_iconst (v := 0) hx hb d_M_some_55 (by decide) ?_
    exact x_iret hc hR hLo ⟨by omega, by omega⟩ heq d_M_some_56
set_option maxRecDepth 100000 in
set_option maxHeartbeats 4000000 in
theorem k_M_some_b28 {p : Program} {l : Launch} {e : Env} {s : State} {m : MethodId} {args : Array Value} {below : List Frame} {meth : Method} {c : Code} {s0 : State} {A0 : Array Value} {G : Gx_t} {r : Outcome × Hs_t} {rm : Room} (hc : Cx_t p s m meth c s0 A0 l G y_M_some b_M_some 2 (some .int) []) (hrm : rm_Ok 0 0 5 116 rm) : ∀ (t0 : Nat) (sv0 : Nat) (h0 : Hs_t) (H : Heap) (locs : List Loc) (ls : Array Slot), Rp_h G s0.heap h0 H → Lo_k s0 locs → lv_has ls 2 [(0, .ref t0)] → f_M_some_b28 t0 sv0 h0 = some r → W p l e rm s m args below meth c H locs 0 0 (xq_MQ G s0 below r s rm.cells rm.slots) (F0 m 28 ls [.ref sv0]) := by
  have hx := hc.x
  have hb := hc.b
  obtain ⟨hm1, hm2, hm3, hm4⟩ := id hrm
  intro t0 sv0 h0 H locs ls hR hLo hl heq
  unfold f_M_some_b28 at heq
  refine lv_iconst (v := 1) hx hb d_M_some_28 (by decide) ?_
  refine lv_goto (tgt := 45) hx hb d_M_some_29 rfl ?_
  refine W.widen (k := 0) (n := 0) (by omega) (by omega) ?_
  exact k_M_some_b45 hc hrm t0 1 sv0 h0 H locs ls hR hLo (lv_sub hl [0] rfl) heq
set_option maxRecDepth 100000 in
set_option maxHeartbeats 4000000 in
theorem c_M_some {l : Launch} {s0 : State} {A0 : Array Value} {G : Gx_t} (hG : G_0 l s0 A0 G) (rm : Room) (hrm : rm_Ok 0 0 5 116 rm) (t0 : Nat) (x1 : Int32) (h0 : Hs_t) (r : Outcome × Hs_t) (heq : f_M_some t0 x1 h0 = some r) : M_X G s0 l y_M_some (.code y_M_some b_M_some 2 (some .int)) rm [.ref t0, .int x1] h0 r := by
  refine M_X.of (by decide) hG (fun p e s m below meth c H hc hR => ?_)
  have hx := hc.x
  have hb := hc.b
  obtain ⟨hm1, hm2, hm3, hm4⟩ := id hrm
  have hLo : Lo_k s0 [] := fun _ hq => absurd hq List.not_mem_nil
  have hl := lv_entry ([.ref t0, .int x1]) (n := 2) (Nat.le_of_ble_eq_true rfl)
  rw [lg_entry_eq]
  generalize (lg_sl ([.ref t0, .int x1]) ++ List.replicate (2 - (lg_sl ([.ref t0, .int x1])).length) Slot.unset).toArray = ls at hl ⊢
  have hl : lv_has ls 2 [(0, .ref t0), (1, .int x1)] := hl
  generalize hle : ([] : List Loc) = locs at hLo ⊢
  unfold f_M_some at heq
  refine lv_aload_n hx hb d_M_some_0 rfl (lv_at hl 0 rfl) ?_
  refine lv_iconst (v := 0) hx hb d_M_some_1 (by decide) ?_
  refine x_pV hc hR hLo fl_M_123 (Or.inl rfl) rfl rfl heq d_M_some_2 (fun h1 H locs hR hLo heq => ?_)
  refine lv_aload_n hx hb d_M_some_5 rfl (lv_at hl 0 rfl) ?_
  refine lv_aload_n hx hb d_M_some_6 rfl (lv_at hl 0 rfl) ?_
  refine x_gI hc hR fl_M_75 heq d_M_some_7 (fun v1 heq => ?_)
  refine lv_if_eq (tgt := 17) hx hb d_M_some_10 rfl (fun hq => ?_) (fun hq => ?_)
  · rw [if_pos hq] at heq
    refine lv_iload_n hx hb d_M_some_17 rfl (lv_at hl 1 rfl) ?_
    refine lv_iconst (v := 1) hx hb d_M_some_18 (by decide) ?_
    refine lv_icmp_lt (tgt := 28) hx hb d_M_some_19 rfl (fun hq => ?_) (fun hq => ?_)
    · rw [if_pos hq] at heq
      refine W.widen (k := 0) (n := 0) (by omega) (by omega) ?_
      exact k_M_some_b28 hc hrm t0 t0 h1 H locs ls hR hLo (lv_sub hl [0] rfl) heq
    · rw [if_neg hq] at heq
      refine lv_iload_n hx hb d_M_some_22 rfl (lv_at hl 1 rfl) ?_
      refine lv_bipush (v := 60) hx hb d_M_some_23 (by decide) ?_
      refine lv_icmp_le (tgt := 32) hx hb d_M_some_25 rfl (fun hq => ?_) (fun hq => ?_)
      · rw [if_pos hq] at heq
        refine lv_aload_n hx hb d_M_some_32 rfl (lv_at hl 0 rfl) ?_
        refine lv_iload_n hx hb d_M_some_33 rfl (lv_at hl 1 rfl) ?_
        refine x_ck heq (fun tt fs ha ht heq => ?_)
        obtain rfl : tt = 8 := by simpa using ht
        refine x_bI (mc := 0) (ms := 0) (st := [.ref t0]) hc hLo heq ⟨by omega, by omega⟩ (fun r9 h9 => x_runV hc (c_M_reads hc.g rm_M_reads rk_M_reads _ _ _ _ h9) md_M_reads hR ha rfl wd_821 wd_823 sp_11 hl.1 ml_M_reads rfl (Nat.le_of_ble_eq_true rfl) d_M_some_34 ⟨by show 4 + 1 ≤ _; omega, by show 8 + (3 + 11) + (94) ≤ _; omega⟩ ⟨by show 0 + 0 ≤ _; omega, by show 0 + 0 ≤ _; omega⟩) (fun v2 h2 H locs hR hLo heq => ?_)
        refine lv_if_ne (tgt := 44) hx hb d_M_some_37 rfl (fun hq => ?_) (fun hq => ?_)
        · rw [if_neg hq] at heq
          refine lv_iconst (v := 0) hx hb d_M_some_44 (by decide) ?_
          refine W.widen (k := 0) (n := 0) (by omega) (by omega) ?_
          exact k_M_some_b45 hc hrm t0 0 t0 h2 H locs ls hR hLo (lv_sub hl [0] rfl) heq
        · rw [if_pos hq] at heq
          refine lv_iconst (v := 2) hx hb d_M_some_40 (by decide) ?_
          refine lv_goto (tgt := 45) hx hb d_M_some_41 rfl ?_
          refine W.widen (k := 0) (n := 0) (by omega) (by omega) ?_
          exact k_M_some_b45 hc hrm t0 2 t0 h2 H locs ls hR hLo (lv_sub hl [0] rfl) heq
      · rw [if_neg hq] at heq
        refine W.widen (k := 0) (n := 0) (by omega) (by omega) ?_
        exact k_M_some_b28 hc hrm t0 t0 h1 H locs ls hR hLo (lv_sub hl [0] rfl) heq
  · rw [if_neg hq] at heq
    refine lv_iconst (v := 2) hx hb d_M_some_13 (by decide) ?_
    refine lv_goto (tgt := 45) hx hb d_M_some_14 rfl ?_
    refine W.widen (k := 0) (n := 0) (by omega) (by omega) ?_
    exact k_M_some_b45 hc hrm t0 2 t0 h1 H locs ls hR hLo (lv_sub hl [0] rfl) heq
def rm_M_some : Room := { frames := 5, cells := 0, slots := 0, locals := 116 }
theorem rk_M_some : rm_Ok 0 0 5 116 rm_M_some := ⟨Nat.le_refl _, Nat.le_refl _, Nat.le_refl _, Nat.le_refl _⟩
def f_M_fill_b2 : Nat → Nat → Int32 → Hs_t → Rs_t
  | 0, _, _, _ => none
  | n + 1, t0, x2, h0 => if x2 ≤ 0 then (re_I 0 h0) else ((ck_T [8] h0 t0).bind fun _ => bd_I (f_M_reads t0 x2 h0) (fun v1 h1 => if v1 = 0 then (re_I 1 h1) else ((fd_I [8] 20 h1 t0).bind fun v2 => if v2 = 0 then (re_I 2 h1) else ((ck_T [8] h1 t0).bind fun _ => bd_V (f_M_putBag t0 h1) (fun h2 => (fd_I [8] 20 h2 t0).bind fun v3 => (f_M_fill_b2 n) t0 (x2 - v3) h2)))))
def f_M_fill (t0 : Nat) (x1 : Int32) (h0 : Hs_t) : Rs_t := f_M_fill_b2 fu_N t0 x1 h0
set_option maxRecDepth 100000 in
set_option maxHeartbeats 4000000 in
theorem k_M_fill_b2 {p : Program} {l : Launch} {e : Env} {s : State} {m : MethodId} {args : Array Value} {below : List Frame} {meth : Method} {c : Code} {s0 : State} {A0 : Array Value} {G : Gx_t} {r : Outcome × Hs_t} {rm : Room} (hc : Cx_t p s m meth c s0 A0 l G y_M_fill b_M_fill 3 (some .int) []) (hrm : rm_Ok 0 0 5 116 rm) : ∀ (n : Nat) (t0 : Nat) (x2 : Int32) (h0 : Hs_t) (H : Heap) (locs : List Loc) (ls : Array Slot), Rp_h G s0.heap h0 H → Lo_k s0 locs → lv_has ls 3 [(0, .ref t0), (2, .int x2)] → f_M_fill_b2 n t0 x2 h0 = some r → W p l e rm s m args below meth c H locs 0 0 (xq_MQ G s0 below r s rm.cells rm.slots) (F0 m 2 ls []) := by
  have hx := hc.x
  have hb := hc.b
  obtain ⟨hm1, hm2, hm3, hm4⟩ := id hrm
  intro n
  induction n with
  | zero =>
    intro t0 x2 h0 H locs ls hR hLo hl heq
    unfold f_M_fill_b2 at heq
    cases heq
  | succ n hr2 =>
    intro t0 x2 h0 H locs ls hR hLo hl heq
    unfold f_M_fill_b2 at heq
    refine lv_iload_n hx hb d_M_fill_2 rfl (lv_at hl 1 rfl) ?_
    refine lv_if_le (tgt := 39) hx hb d_M_fill_3 rfl (fun hq => ?_) (fun hq => ?_)
    · rw [if_pos hq] at heq
      refine lv_iconst (v := 0) hx hb d_M_fill_39 (by decide) ?_
      exact x_iret hc hR hLo ⟨by omega, by omega⟩ heq d_M_fill_40
    · rw [if_neg hq] at heq
      refine lv_aload_n hx hb d_M_fill_6 rfl (lv_at hl 0 rfl) ?_
      refine lv_iload_n hx hb d_M_fill_7 rfl (lv_at hl 1 rfl) ?_
      refine x_ck heq (fun tt fs ha ht heq => ?_)
      obtain rfl : tt = 8 := by simpa using ht
      refine x_bI (mc := 0) (ms := 0) (st := []) hc hLo heq ⟨by omega, by omega⟩ (fun r9 h9 => x_runV hc (c_M_reads hc.g rm_M_reads rk_M_reads _ _ _ _ h9) md_M_reads hR ha rfl wd_821 wd_823 sp_11 hl.1 ml_M_reads rfl (Nat.le_of_ble_eq_true rfl) d_M_fill_8 ⟨by show 4 + 1 ≤ _; omega, by show 8 + (3 + 11) + (94) ≤ _; omega⟩ ⟨by show 0 + 0 ≤ _; omega, by show 0 + 0 ≤ _; omega⟩) (fun v1 h1 H locs hR hLo heq => ?_)
      refine lv_if_ne (tgt := 16) hx hb d_M_fill_11 rfl (fun hq => ?_) (fun hq => ?_)
      · rw [if_neg hq] at heq
        refine lv_aload_n hx hb d_M_fill_16 rfl (lv_at hl 0 rfl) ?_
        refine x_gI hc hR fl_M_86 heq d_M_fill_17 (fun v2 heq => ?_)
        refine lv_if_ne (tgt := 25) hx hb d_M_fill_20 rfl (fun hq => ?_) (fun hq => ?_)
        · rw [if_neg hq] at heq
          refine lv_aload_n hx hb d_M_fill_25 rfl (lv_at hl 0 rfl) ?_
          refine x_ck heq (fun tt fs ha ht heq => ?_)
          obtain rfl : tt = 8 := by simpa using ht
          refine x_bV (mc := 0) (ms := 0) (st := []) hc hLo heq ⟨by omega, by omega⟩ (fun r9 h9 => x_runV hc (c_M_putBag hc.g rm_M_putBag rk_M_putBag _ _ _ h9) md_M_putBag hR ha rfl wd_865 wd_867 sp_22 hl.1 ml_M_putBag rfl (Nat.le_of_ble_eq_true rfl) d_M_fill_26 ⟨by show 0 + 1 ≤ _; omega, by show 8 + (2 + 11) + (0) ≤ _; omega⟩ ⟨by show 0 + 0 ≤ _; omega, by show 0 + 0 ≤ _; omega⟩) (fun h2 H locs hR hLo heq => ?_)
          refine lv_iload_n hx hb d_M_fill_29 rfl (lv_at hl 1 rfl) ?_
          refine lv_aload_n hx hb d_M_fill_30 rfl (lv_at hl 0 rfl) ?_
          refine x_gI hc hR fl_M_86 heq d_M_fill_31 (fun v3 heq => ?_)
          refine lv_isub hx hb d_M_fill_34 ?_
          refine lv_istore_n (lv' := [(2, .int (x2 - v3)), (0, .ref t0)]) hx hb d_M_fill_35 rfl hl (by decide) rfl (fun ls hl => ?_)
          refine lv_goto (tgt := 2) hx hb d_M_fill_36 rfl ?_
          refine W.widen (k := 0) (n := 0) (by omega) (by omega) ?_
          exact hr2 t0 (x2 - v3) h2 H locs ls hR hLo (lv_sub hl [1, 0] rfl) heq
        · rw [if_pos hq] at heq
          refine lv_iconst (v := 2) hx hb d_M_fill_23 (by decide) ?_
          exact x_iret hc hR hLo ⟨by omega, by omega⟩ heq d_M_fill_24
      · rw [if_pos hq] at heq
        refine lv_iconst (v := 1) hx hb d_M_fill_14 (by decide) ?_
        exact x_iret hc hR hLo ⟨by omega, by omega⟩ heq d_M_fill_15
set_option maxRecDepth 100000 in
set_option maxHeartbeats 4000000 in
theorem c_M_fill {l : Launch} {s0 : State} {A0 : Array Value} {G : Gx_t} (hG : G_0 l s0 A0 G) (rm : Room) (hrm : rm_Ok 0 0 5 116 rm) (t0 : Nat) (x1 : Int32) (h0 : Hs_t) (r : Outcome × Hs_t) (heq : f_M_fill t0 x1 h0 = some r) : M_X G s0 l y_M_fill (.code y_M_fill b_M_fill 3 (some .int)) rm [.ref t0, .int x1] h0 r := by
  refine M_X.of (by decide) hG (fun p e s m below meth c H hc hR => ?_)
  have hx := hc.x
  have hb := hc.b
  obtain ⟨hm1, hm2, hm3, hm4⟩ := id hrm
  have hLo : Lo_k s0 [] := fun _ hq => absurd hq List.not_mem_nil
  have hl := lv_entry ([.ref t0, .int x1]) (n := 3) (Nat.le_of_ble_eq_true rfl)
  rw [lg_entry_eq]
  generalize (lg_sl ([.ref t0, .int x1]) ++ List.replicate (3 - (lg_sl ([.ref t0, .int x1])).length) Slot.unset).toArray = ls at hl ⊢
  have hl : lv_has ls 3 [(0, .ref t0), (1, .int x1)] := hl
  generalize hle : ([] : List Loc) = locs at hLo ⊢
  unfold f_M_fill at heq
  refine lv_iload_n hx hb d_M_fill_0 rfl (lv_at hl 1 rfl) ?_
  refine lv_istore_n (lv' := [(2, .int x1), (0, .ref t0), (1, .int x1)]) hx hb d_M_fill_1 rfl hl (by decide) rfl (fun ls hl => ?_)
  refine W.widen (k := 0) (n := 0) (by omega) (by omega) ?_
  exact k_M_fill_b2 hc hrm fu_N t0 x1 h0 H locs ls hR hLo (lv_sub hl [1, 0] rfl) heq
def rm_M_fill : Room := { frames := 5, cells := 0, slots := 0, locals := 116 }
theorem rk_M_fill : rm_Ok 0 0 5 116 rm_M_fill := ⟨Nat.le_refl _, Nat.le_refl _, Nat.le_refl _, Nat.le_refl _⟩
def f_M_full_b63 (h0 : Hs_t) : Rs_t := re_V h0
def f_M_full_b60 (sv0 : Int32) (sv1 : Nat) (h0 : Hs_t) : Rs_t := (pt_V [8] 0 h0 sv1 (.int sv0)).bind fun h4 => f_M_full_b63 h4
def f_M_full_b32 (t0 : Nat) (x1 : Int32) (sv0 : Int32) (sv1 : Nat) (h0 : Hs_t) : Rs_t := (pt_V [8] 0 h0 sv1 (.int sv0)).bind fun h2 => (fd_I [8] 0 h2 t0).bind fun v2 => if v2 = 0 then ((ck_T [8] h2 t0).bind fun _ => bd_I (f_M_fill t0 x1 h2) (fun v3 h3 => if v3 = 0 then (f_M_full_b60 0 t0 h3) else (f_M_full_b60 (v3 + 1) t0 h3))) else (f_M_full_b63 h2)
def f_M_full_b27 (t0 : Nat) (x1 : Int32) (sv0 : Nat) (h0 : Hs_t) : Rs_t := f_M_full_b32 t0 x1 1 sv0 h0
def f_M_full (t0 : Nat) (x1 : Int32) (h0 : Hs_t) : Rs_t := (pt_V [8] 25 h0 t0 (.int 0)).bind fun h1 => (fd_I [8] 21 h1 t0).bind fun v1 => if v1 = 0 then (if x1 < 0 then (f_M_full_b27 t0 x1 t0 h1) else (if x1 ≤ 60 then (f_M_full_b32 t0 x1 0 t0 h1) else (f_M_full_b27 t0 x1 t0 h1))) else (f_M_full_b32 t0 x1 2 t0 h1)
set_option maxRecDepth 100000 in
set_option maxHeartbeats 4000000 in
theorem k_M_full_b63 {p : Program} {l : Launch} {e : Env} {s : State} {m : MethodId} {args : Array Value} {below : List Frame} {meth : Method} {c : Code} {s0 : State} {A0 : Array Value} {G : Gx_t} {r : Outcome × Hs_t} {rm : Room} (hc : Cx_t p s m meth c s0 A0 l G y_M_full b_M_full 3 none []) (hrm : rm_Ok 0 0 6 138 rm) : ∀  (h0 : Hs_t) (H : Heap) (locs : List Loc) (ls : Array Slot), Rp_h G s0.heap h0 H → Lo_k s0 locs → lv_has ls 3 [] → f_M_full_b63  h0 = some r → W p l e rm s m args below meth c H locs 0 0 (xq_MQ G s0 below r s rm.cells rm.slots) (F0 m 63 ls []) := by
  have hx := hc.x
  have hb := hc.b
  obtain ⟨hm1, hm2, hm3, hm4⟩ := id hrm
  intro  h0 H locs ls hR hLo hl heq
  unfold f_M_full_b63 at heq
  exact x_vret hc hR hLo ⟨by omega, by omega⟩ heq d_M_full_63
set_option maxRecDepth 100000 in
set_option maxHeartbeats 4000000 in
theorem k_M_full_b60 {p : Program} {l : Launch} {e : Env} {s : State} {m : MethodId} {args : Array Value} {below : List Frame} {meth : Method} {c : Code} {s0 : State} {A0 : Array Value} {G : Gx_t} {r : Outcome × Hs_t} {rm : Room} (hc : Cx_t p s m meth c s0 A0 l G y_M_full b_M_full 3 none []) (hrm : rm_Ok 0 0 6 138 rm) : ∀ (sv0 : Int32) (sv1 : Nat) (h0 : Hs_t) (H : Heap) (locs : List Loc) (ls : Array Slot), Rp_h G s0.heap h0 H → Lo_k s0 locs → lv_has ls 3 [] → f_M_full_b60 sv0 sv1 h0 = some r → W p l e rm s m args below meth c H locs 0 0 (xq_MQ G s0 below r s rm.cells rm.slots) (F0 m 60 ls [.int sv0, .ref sv1]) := by
  have hx := hc.x
  have hb := hc.b
  obtain ⟨hm1, hm2, hm3, hm4⟩ := id hrm
  intro sv0 sv1 h0 H locs ls hR hLo hl heq
  unfold f_M_full_b60 at heq
  refine x_pV hc hR hLo fl_M_65 (Or.inl rfl) rfl rfl heq d_M_full_60 (fun h4 H locs hR hLo heq => ?_)
  refine W.widen (k := 0) (n := 0) (by omega) (by omega) ?_
  exact k_M_full_b63 hc hrm h4 H locs ls hR hLo (lv_sub hl [] rfl) heq
set_option maxRecDepth 100000 in
set_option maxHeartbeats 4000000 in
theorem k_M_full_b32 {p : Program} {l : Launch} {e : Env} {s : State} {m : MethodId} {args : Array Value} {below : List Frame} {meth : Method} {c : Code} {s0 : State} {A0 : Array Value} {G : Gx_t} {r : Outcome × Hs_t} {rm : Room} (hc : Cx_t p s m meth c s0 A0 l G y_M_full b_M_full 3 none []) (hrm : rm_Ok 0 0 6 138 rm) : ∀ (t0 : Nat) (x1 : Int32) (sv0 : Int32) (sv1 : Nat) (h0 : Hs_t) (H : Heap) (locs : List Loc) (ls : Array Slot), Rp_h G s0.heap h0 H → Lo_k s0 locs → lv_has ls 3 [(0, .ref t0), (1, .int x1)] → f_M_full_b32 t0 x1 sv0 sv1 h0 = some r → W p l e rm s m args below meth c H locs 0 0 (xq_MQ G s0 below r s rm.cells rm.slots) (F0 m 32 ls [.int sv0, .ref sv1]) := by
  have hx := hc.x
  have hb := hc.b
  obtain ⟨hm1, hm2, hm3, hm4⟩ := id hrm
  intro t0 x1 sv0 sv1 h0 H locs ls hR hLo hl heq
  unfold f_M_full_b32 at heq
  refine x_pV hc hR hLo fl_M_65 (Or.inl rfl) rfl rfl heq d_M_full_32 (fun h2 H locs hR hLo heq => ?_)
  refine lv_aload_n hx hb d_M_full_35 rfl (lv_at hl 0 rfl) ?_
  refine x_gI hc hR fl_M_65 heq d_M_full_36 (fun v2 heq => ?_)
  refine lv_if_ne (tgt := 63) hx hb d_M_full_39 rfl (fun hq => ?_) (fun hq => ?_)
  · rw [if_neg hq] at heq
    refine W.widen (k := 0) (n := 0) (by omega) (by omega) ?_
    exact k_M_full_b63 hc hrm h2 H locs ls hR hLo (lv_sub hl [] rfl) heq
  · rw [if_pos hq] at heq
    refine lv_aload_n hx hb d_M_full_42 rfl (lv_at hl 0 rfl) ?_
    refine lv_iload_n hx hb d_M_full_43 rfl (lv_at hl 1 rfl) ?_
    refine x_ck heq (fun tt fs ha ht heq => ?_)
    obtain rfl : tt = 8 := by simpa using ht
    refine x_bI (mc := 0) (ms := 0) (st := []) hc hLo heq ⟨by omega, by omega⟩ (fun r9 h9 => x_runV hc (c_M_fill hc.g rm_M_fill rk_M_fill _ _ _ _ h9) md_M_fill hR ha rfl wd_877 wd_879 sp_23 hl.1 ml_M_fill rfl (Nat.le_of_ble_eq_true rfl) d_M_full_44 ⟨by show 5 + 1 ≤ _; omega, by show 8 + (3 + 11) + (116) ≤ _; omega⟩ ⟨by show 0 + 0 ≤ _; omega, by show 0 + 0 ≤ _; omega⟩) (fun v3 h3 H locs hR hLo heq => ?_)
    refine lv_istore_n (lv' := [(2, .int v3), (0, .ref t0), (1, .int x1)]) hx hb d_M_full_47 rfl hl (by decide) rfl (fun ls hl => ?_)
    refine lv_aload_n hx hb d_M_full_48 rfl (lv_at hl 1 rfl) ?_
    refine lv_iload_n hx hb d_M_full_49 rfl (lv_at hl 0 rfl) ?_
    refine lv_if_ne (tgt := 57) hx hb d_M_full_50 rfl (fun hq => ?_) (fun hq => ?_)
    · rw [if_neg hq] at heq
      refine lv_iload_n hx hb d_M_full_57 rfl (lv_at hl 0 rfl) ?_
      refine lv_iconst (v := 1) hx hb d_M_full_58 (by decide) ?_
      refine lv_iadd hx hb d_M_full_59 ?_
      refine W.widen (k := 0) (n := 0) (by omega) (by omega) ?_
      exact k_M_full_b60 hc hrm (v3 + 1) t0 h3 H locs ls hR hLo (lv_sub hl [] rfl) heq
    · rw [if_pos hq] at heq
      refine lv_iconst (v := 0) hx hb d_M_full_53 (by decide) ?_
      refine lv_goto (tgt := 60) hx hb d_M_full_54 rfl ?_
      refine W.widen (k := 0) (n := 0) (by omega) (by omega) ?_
      exact k_M_full_b60 hc hrm 0 t0 h3 H locs ls hR hLo (lv_sub hl [] rfl) heq
set_option maxRecDepth 100000 in
set_option maxHeartbeats 4000000 in
theorem k_M_full_b27 {p : Program} {l : Launch} {e : Env} {s : State} {m : MethodId} {args : Array Value} {below : List Frame} {meth : Method} {c : Code} {s0 : State} {A0 : Array Value} {G : Gx_t} {r : Outcome × Hs_t} {rm : Room} (hc : Cx_t p s m meth c s0 A0 l G y_M_full b_M_full 3 none []) (hrm : rm_Ok 0 0 6 138 rm) : ∀ (t0 : Nat) (x1 : Int32) (sv0 : Nat) (h0 : Hs_t) (H : Heap) (locs : List Loc) (ls : Array Slot), Rp_h G s0.heap h0 H → Lo_k s0 locs → lv_has ls 3 [(0, .ref t0), (1, .int x1)] → f_M_full_b27 t0 x1 sv0 h0 = some r → W p l e rm s m args below meth c H locs 0 0 (xq_MQ G s0 below r s rm.cells rm.slots) (F0 m 27 ls [.ref sv0]) := by
  have hx := hc.x
  have hb := hc.b
  obtain ⟨hm1, hm2, hm3, hm4⟩ := id hrm
  intro t0 x1 sv0 h0 H locs ls hR hLo hl heq
  unfold f_M_full_b27 at heq
  refine lv_iconst (v := 1) hx hb d_M_full_27 (by decide) ?_
  refine lv_goto (tgt := 32) hx hb d_M_full_28 rfl ?_
  refine W.widen (k := 0) (n := 0) (by omega) (by omega) ?_
  exact k_M_full_b32 hc hrm t0 x1 1 sv0 h0 H locs ls hR hLo (lv_sub hl [0, 1] rfl) heq
set_option maxRecDepth 100000 in
set_option maxHeartbeats 4000000 in
theorem c_M_full {l : Launch} {s0 : State} {A0 : Array Value} {G : Gx_t} (hG : G_0 l s0 A0 G) (rm : Room) (hrm : rm_Ok 0 0 6 138 rm) (t0 : Nat) (x1 : Int32) (h0 : Hs_t) (r : Outcome × Hs_t) (heq : f_M_full t0 x1 h0 = some r) : M_X G s0 l y_M_full (.code y_M_full b_M_full 3 none) rm [.ref t0, .int x1] h0 r := by
  refine M_X.of (by decide) hG (fun p e s m below meth c H hc hR => ?_)
  have hx := hc.x
  have hb := hc.b
  obtain ⟨hm1, hm2, hm3, hm4⟩ := id hrm
  have hLo : Lo_k s0 [] := fun _ hq => absurd hq List.not_mem_nil
  have hl := lv_entry ([.ref t0, .int x1]) (n := 3) (Nat.le_of_ble_eq_true rfl)
  rw [lg_entry_eq]
  generalize (lg_sl ([.ref t0, .int x1]) ++ List.replicate (3 - (lg_sl ([.ref t0, .int x1])).length) Slot.unset).toArray = ls at hl ⊢
  have hl : lv_has ls 3 [(0, .ref t0), (1, .int x1)] := hl
  generalize hle : ([] : List Loc) = locs at hLo ⊢
  unfold f_M_full at heq
  refine lv_aload_n hx hb d_M_full_0 rfl (lv_at hl 0 rfl) ?_
  refine lv_iconst (v := 0) hx hb d_M_full_1 (by decide) ?_
  refine x_pV hc hR hLo fl_M_123 (Or.inl rfl) rfl rfl heq d_M_full_2 (fun h1 H locs hR hLo heq => ?_)
  refine lv_aload_n hx hb d_M_full_5 rfl (lv_at hl 0 rfl) ?_
  refine lv_aload_n hx hb d_M_full_6 rfl (lv_at hl 0 rfl) ?_
  refine x_gI hc hR fl_M_75 heq d_M_full_7 (fun v1 heq => ?_)
  refine lv_if_eq (tgt := 17) hx hb d_M_full_10 rfl (fun hq => ?_) (fun hq => ?_)
  · rw [if_pos hq] at heq
    refine lv_iload_n hx hb d_M_full_17 rfl (lv_at hl 1 rfl) ?_
    refine lv_if_lt (tgt := 27) hx hb d_M_full_18 rfl (fun hq => ?_) (fun hq => ?_)
    · rw [if_pos hq] at heq
      refine W.widen (k := 0) (n := 0) (by omega) (by omega) ?_
      exact k_M_full_b27 hc hrm t0 x1 t0 h1 H locs ls hR hLo (lv_sub hl [0, 1] rfl) heq
    · rw [if_neg hq] at heq
      refine lv_iload_n hx hb d_M_full_21 rfl (lv_at hl 1 rfl) ?_
      refine lv_bipush (v := 60) hx hb d_M_full_22 (by decide) ?_
      refine lv_icmp_le (tgt := 31) hx hb d_M_full_24 rfl (fun hq => ?_) (fun hq => ?_)
      · rw [if_pos hq] at heq
        refine lv_iconst (v := 0) hx hb d_M_full_31 (by decide) ?_
        refine W.widen (k := 0) (n := 0) (by omega) (by omega) ?_
        exact k_M_full_b32 hc hrm t0 x1 0 t0 h1 H locs ls hR hLo (lv_sub hl [0, 1] rfl) heq
      · rw [if_neg hq] at heq
        refine W.widen (k := 0) (n := 0) (by omega) (by omega) ?_
        exact k_M_full_b27 hc hrm t0 x1 t0 h1 H locs ls hR hLo (lv_sub hl [0, 1] rfl) heq
  · rw [if_neg hq] at heq
    refine lv_iconst (v := 2) hx hb d_M_full_13 (by decide) ?_
    refine lv_goto (tgt := 32) hx hb d_M_full_14 rfl ?_
    refine W.widen (k := 0) (n := 0) (by omega) (by omega) ?_
    exact k_M_full_b32 hc hrm t0 x1 2 t0 h1 H locs ls hR hLo (lv_sub hl [0, 1] rfl) heq
def rm_M_full : Room := { frames := 6, cells := 0, slots := 0, locals := 138 }
theorem rk_M_full : rm_Ok 0 0 6 138 rm_M_full := ⟨Nat.le_refl _, Nat.le_refl _, Nat.le_refl _, Nat.le_refl _⟩
def f_M_skip_b117 (sv0 : Int32) (h0 : Hs_t) : Rs_t := re_I sv0 h0
def f_M_skip_b105 (t0 : Nat) (x2 : Int32) (h0 : Hs_t) : Rs_t := (fd_I [8] 0 h0 t0).bind fun v6 => if v6 ≤ 0 then (f_M_skip_b117 x2 h0) else (f_M_skip_b117 0 h0)
def f_M_skip_b101 (r48 : Nat → Int32 → Int32 → Int32 → Hs_t → Rs_t) (t0 : Nat) (x1 : Int32) (x2 : Int32) (sv0 : Int32) (h0 : Hs_t) : Rs_t := r48 t0 x1 x2 sv0 h0
def f_M_skip_b78 (r48 : Nat → Int32 → Int32 → Int32 → Hs_t → Rs_t) (t0 : Nat) (x1 : Int32) (x2 : Int32) (x3 : Int32) (h0 : Hs_t) : Rs_t := if x3 = 0 then (r48 t0 x1 x2 x3 h0) else ((fd_I [8] 20 h0 t0).bind fun v4 => (fd_I [8] 20 h0 t0).bind fun v5 => if v5 ≤ 0 then (f_M_skip_b101 r48 t0 x1 (x2 + v4) 0 h0) else (f_M_skip_b101 r48 t0 x1 (x2 + v4) 1 h0))
def f_M_skip_b48 : Nat → Nat → Int32 → Int32 → Int32 → Hs_t → Rs_t
  | 0, _, _, _, _, _ => none
  | n + 1, t0, x1, x2, x3, h0 => if x3 = 0 then (f_M_skip_b105 t0 x2 h0) else (if x1 ≤ x2 then (f_M_skip_b105 t0 x2 h0) else ((ck_T [8] h0 t0).bind fun _ => bd_I (f_M_reads t0 (x1 - x2) h0) (fun v3 h3 => if v3 = 0 then (if x2 = 0 then ((pt_V [8] 0 h3 t0 (.int 2)).bind fun h4 => f_M_skip_b78 (f_M_skip_b48 n) t0 x1 x2 v3 h4) else (f_M_skip_b78 (f_M_skip_b48 n) t0 x1 x2 v3 h3)) else (f_M_skip_b78 (f_M_skip_b48 n) t0 x1 x2 v3 h3))))
def f_M_skip_b32 (t0 : Nat) (x1 : Int32) (sv0 : Int32) (sv1 : Nat) (h0 : Hs_t) : Rs_t := (pt_V [8] 0 h0 sv1 (.int sv0)).bind fun h2 => (fd_I [8] 0 h2 t0).bind fun v2 => if v2 ≤ 0 then (f_M_skip_b48 fu_N t0 x1 0 1 h2) else (re_I 0 h2)
def f_M_skip_b27 (t0 : Nat) (x1 : Int32) (sv0 : Nat) (h0 : Hs_t) : Rs_t := f_M_skip_b32 t0 x1 1 sv0 h0
def f_M_skip (t0 : Nat) (x1 : Int32) (h0 : Hs_t) : Rs_t := (pt_V [8] 25 h0 t0 (.int 0)).bind fun h1 => (fd_I [8] 21 h1 t0).bind fun v1 => if v1 = 0 then (if x1 < 0 then (f_M_skip_b27 t0 x1 t0 h1) else (if x1 ≤ 120 then (f_M_skip_b32 t0 x1 0 t0 h1) else (f_M_skip_b27 t0 x1 t0 h1))) else (f_M_skip_b32 t0 x1 2 t0 h1)
set_option maxRecDepth 100000 in
set_option maxHeartbeats 4000000 in
theorem k_M_skip_b117 {p : Program} {l : Launch} {e : Env} {s : State} {m : MethodId} {args : Array Value} {below : List Frame} {meth : Method} {c : Code} {s0 : State} {A0 : Array Value} {G : Gx_t} {r : Outcome × Hs_t} {rm : Room} (hc : Cx_t p s m meth c s0 A0 l G y_M_skip b_M_skip 4 (some .int) []) (hrm : rm_Ok 0 0 5 116 rm) : ∀ (sv0 : Int32) (h0 : Hs_t) (H : Heap) (locs : List Loc) (ls : Array Slot), Rp_h G s0.heap h0 H → Lo_k s0 locs → lv_has ls 4 [] → f_M_skip_b117 sv0 h0 = some r → W p l e rm s m args below meth c H locs 0 0 (xq_MQ G s0 below r s rm.cells rm.slots) (F0 m 117 ls [.int sv0]) := by
  have hx := hc.x
  have hb := hc.b
  obtain ⟨hm1, hm2, hm3, hm4⟩ := id hrm
  intro sv0 h0 H locs ls hR hLo hl heq
  unfold f_M_skip_b117 at heq
  exact x_iret hc hR hLo ⟨by omega, by omega⟩ heq d_M_skip_117
set_option maxRecDepth 100000 in
set_option maxHeartbeats 4000000 in
theorem k_M_skip_b105 {p : Program} {l : Launch} {e : Env} {s : State} {m : MethodId} {args : Array Value} {below : List Frame} {meth : Method} {c : Code} {s0 : State} {A0 : Array Value} {G : Gx_t} {r : Outcome × Hs_t} {rm : Room} (hc : Cx_t p s m meth c s0 A0 l G y_M_skip b_M_skip 4 (some .int) []) (hrm : rm_Ok 0 0 5 116 rm) : ∀ (t0 : Nat) (x2 : Int32) (h0 : Hs_t) (H : Heap) (locs : List Loc) (ls : Array Slot), Rp_h G s0.heap h0 H → Lo_k s0 locs → lv_has ls 4 [(0, .ref t0), (2, .int x2)] → f_M_skip_b105 t0 x2 h0 = some r → W p l e rm s m args below meth c H locs 0 0 (xq_MQ G s0 below r s rm.cells rm.slots) (F0 m 105 ls []) := by
  have hx := hc.x
  have hb := hc.b
  obtain ⟨hm1, hm2, hm3, hm4⟩ := id hrm
  intro t0 x2 h0 H locs ls hR hLo hl heq
  unfold f_M_skip_b105 at heq
  refine lv_aload_n hx hb d_M_skip_105 rfl (lv_at hl 0 rfl) ?_
  refine x_gI hc hR fl_M_65 heq d_M_skip_106 (fun v6 heq => ?_)
  refine lv_if_le (tgt := 116) hx hb d_M_skip_109 rfl (fun hq => ?_) (fun hq => ?_)
  · rw [if_pos hq] at heq
    refine lv_iload_n hx hb d_M_skip_116 rfl (lv_at hl 1 rfl) ?_
    refine W.widen (k := 0) (n := 0) (by omega) (by omega) ?_
    exact k_M_skip_b117 hc hrm x2 h0 H locs ls hR hLo (lv_sub hl [] rfl) heq
  · rw [if_neg hq] at heq
    refine lv_iconst (v := 0) hx hb d_M_skip_112 (by decide) ?_
    refine lv_goto (tgt := 117) hx hb d_M_skip_113 rfl ?_
    refine W.widen (k := 0) (n := 0) (by omega) (by omega) ?_
    exact k_M_skip_b117 hc hrm 0 h0 H locs ls hR hLo (lv_sub hl [] rfl) heq
set_option maxRecDepth 100000 in
set_option maxHeartbeats 4000000 in
theorem k_M_skip_b101 {p : Program} {l : Launch} {e : Env} {s : State} {m : MethodId} {args : Array Value} {below : List Frame} {meth : Method} {c : Code} {s0 : State} {A0 : Array Value} {G : Gx_t} {r : Outcome × Hs_t} {rm : Room} (r48 : Nat → Int32 → Int32 → Int32 → Hs_t → Rs_t) (hc : Cx_t p s m meth c s0 A0 l G y_M_skip b_M_skip 4 (some .int) []) (hrm : rm_Ok 0 0 5 116 rm) (hr48 : ∀ (t0 : Nat) (x1 : Int32) (x2 : Int32) (x3 : Int32) (h0 : Hs_t) (H : Heap) (locs : List Loc) (ls : Array Slot), Rp_h G s0.heap h0 H → Lo_k s0 locs → lv_has ls 4 [(0, .ref t0), (1, .int x1), (2, .int x2), (3, .int x3)] → r48 t0 x1 x2 x3 h0 = some r → W p l e rm s m args below meth c H locs 0 0 (xq_MQ G s0 below r s rm.cells rm.slots) (F0 m 48 ls [])) : ∀ (t0 : Nat) (x1 : Int32) (x2 : Int32) (sv0 : Int32) (h0 : Hs_t) (H : Heap) (locs : List Loc) (ls : Array Slot), Rp_h G s0.heap h0 H → Lo_k s0 locs → lv_has ls 4 [(0, .ref t0), (1, .int x1), (2, .int x2)] → f_M_skip_b101 r48 t0 x1 x2 sv0 h0 = some r → W p l e rm s m args below meth c H locs 0 0 (xq_MQ G s0 below r s rm.cells rm.slots) (F0 m 101 ls [.int sv0]) := by
  have hx := hc.x
  have hb := hc.b
  obtain ⟨hm1, hm2, hm3, hm4⟩ := id hrm
  intro t0 x1 x2 sv0 h0 H locs ls hR hLo hl heq
  unfold f_M_skip_b101 at heq
  refine lv_istore_n (lv' := [(3, .int sv0), (0, .ref t0), (1, .int x1), (2, .int x2)]) hx hb d_M_skip_101 rfl hl (by decide) rfl (fun ls hl => ?_)
  refine lv_goto (tgt := 48) hx hb d_M_skip_102 rfl ?_
  refine W.widen (k := 0) (n := 0) (by omega) (by omega) ?_
  exact hr48 t0 x1 x2 sv0 h0 H locs ls hR hLo (lv_sub hl [1, 2, 3, 0] rfl) heq
set_option maxRecDepth 100000 in
set_option maxHeartbeats 4000000 in
theorem k_M_skip_b78 {p : Program} {l : Launch} {e : Env} {s : State} {m : MethodId} {args : Array Value} {below : List Frame} {meth : Method} {c : Code} {s0 : State} {A0 : Array Value} {G : Gx_t} {r : Outcome × Hs_t} {rm : Room} (r48 : Nat → Int32 → Int32 → Int32 → Hs_t → Rs_t) (hc : Cx_t p s m meth c s0 A0 l G y_M_skip b_M_skip 4 (some .int) []) (hrm : rm_Ok 0 0 5 116 rm) (hr48 : ∀ (t0 : Nat) (x1 : Int32) (x2 : Int32) (x3 : Int32) (h0 : Hs_t) (H : Heap) (locs : List Loc) (ls : Array Slot), Rp_h G s0.heap h0 H → Lo_k s0 locs → lv_has ls 4 [(0, .ref t0), (1, .int x1), (2, .int x2), (3, .int x3)] → r48 t0 x1 x2 x3 h0 = some r → W p l e rm s m args below meth c H locs 0 0 (xq_MQ G s0 below r s rm.cells rm.slots) (F0 m 48 ls [])) : ∀ (t0 : Nat) (x1 : Int32) (x2 : Int32) (x3 : Int32) (h0 : Hs_t) (H : Heap) (locs : List Loc) (ls : Array Slot), Rp_h G s0.heap h0 H → Lo_k s0 locs → lv_has ls 4 [(0, .ref t0), (1, .int x1), (2, .int x2), (3, .int x3)] → f_M_skip_b78 r48 t0 x1 x2 x3 h0 = some r → W p l e rm s m args below meth c H locs 0 0 (xq_MQ G s0 below r s rm.cells rm.slots) (F0 m 78 ls []) := by
  have hx := hc.x
  have hb := hc.b
  obtain ⟨hm1, hm2, hm3, hm4⟩ := id hrm
  intro t0 x1 x2 x3 h0 H locs ls hR hLo hl heq
  unfold f_M_skip_b78 at heq
  refine lv_iload_n hx hb d_M_skip_78 rfl (lv_at hl 3 rfl) ?_
  refine lv_if_eq (tgt := 48) hx hb d_M_skip_79 rfl (fun hq => ?_) (fun hq => ?_)
  · rw [if_pos hq] at heq
    refine W.widen (k := 0) (n := 0) (by omega) (by omega) ?_
    exact hr48 t0 x1 x2 x3 h0 H locs ls hR hLo (lv_sub hl [0, 1, 2, 3] rfl) heq
  · rw [if_neg hq] at heq
    refine lv_iload_n hx hb d_M_skip_82 rfl (lv_at hl 2 rfl) ?_
    refine lv_aload_n hx hb d_M_skip_83 rfl (lv_at hl 0 rfl) ?_
    refine x_gI hc hR fl_M_86 heq d_M_skip_84 (fun v4 heq => ?_)
    refine lv_iadd hx hb d_M_skip_87 ?_
    refine lv_istore_n (lv' := [(2, .int (x2 + v4)), (0, .ref t0), (1, .int x1), (3, .int x3)]) hx hb d_M_skip_88 rfl hl (by decide) rfl (fun ls hl => ?_)
    refine lv_aload_n hx hb d_M_skip_89 rfl (lv_at hl 1 rfl) ?_
    refine x_gI hc hR fl_M_86 heq d_M_skip_90 (fun v5 heq => ?_)
    refine lv_if_le (tgt := 100) hx hb d_M_skip_93 rfl (fun hq => ?_) (fun hq => ?_)
    · rw [if_pos hq] at heq
      refine lv_iconst (v := 0) hx hb d_M_skip_100 (by decide) ?_
      refine W.widen (k := 0) (n := 0) (by omega) (by omega) ?_
      exact k_M_skip_b101 _ hc hrm hr48 t0 x1 (x2 + v4) 0 h0 H locs ls hR hLo (lv_sub hl [1, 2, 0] rfl) heq
    · rw [if_neg hq] at heq
      refine lv_iconst (v := 1) hx hb d_M_skip_96 (by decide) ?_
      refine lv_goto (tgt := 101) hx hb d_M_skip_97 rfl ?_
      refine W.widen (k := 0) (n := 0) (by omega) (by omega) ?_
      exact k_M_skip_b101 _ hc hrm hr48 t0 x1 (x2 + v4) 1 h0 H locs ls hR hLo (lv_sub hl [1, 2, 0] rfl) heq
set_option maxRecDepth 100000 in
set_option maxHeartbeats 4000000 in
theorem k_M_skip_b48 {p : Program} {l : Launch} {e : Env} {s : State} {m : MethodId} {args : Array Value} {below : List Frame} {meth : Method} {c : Code} {s0 : State} {A0 : Array Value} {G : Gx_t} {r : Outcome × Hs_t} {rm : Room} (hc : Cx_t p s m meth c s0 A0 l G y_M_skip b_M_skip 4 (some .int) []) (hrm : rm_Ok 0 0 5 116 rm) : ∀ (n : Nat) (t0 : Nat) (x1 : Int32) (x2 : Int32) (x3 : Int32) (h0 : Hs_t) (H : Heap) (locs : List Loc) (ls : Array Slot), Rp_h G s0.heap h0 H → Lo_k s0 locs → lv_has ls 4 [(0, .ref t0), (1, .int x1), (2, .int x2), (3, .int x3)] → f_M_skip_b48 n t0 x1 x2 x3 h0 = some r → W p l e rm s m args below meth c H locs 0 0 (xq_MQ G s0 below r s rm.cells rm.slots) (F0 m 48 ls []) := by
  have hx := hc.x
  have hb := hc.b
  obtain ⟨hm1, hm2, hm3, hm4⟩ := id hrm
  intro n
  induction n with
  | zero =>
    intro t0 x1 x2 x3 h0 H locs ls hR hLo hl heq
    unfold f_M_skip_b48 at heq
    cases heq
  | succ n hr48 =>
    intro t0 x1 x2 x3 h0 H locs ls hR hLo hl heq
    unfold f_M_skip_b48 at heq
    refine lv_iload_n hx hb d_M_skip_48 rfl (lv_at hl 3 rfl) ?_
    refine lv_if_eq (tgt := 105) hx hb d_M_skip_49 rfl (fun hq => ?_) (fun hq => ?_)
    · rw [if_pos hq] at heq
      refine W.widen (k := 0) (n := 0) (by omega) (by omega) ?_
      exact k_M_skip_b105 hc hrm t0 x2 h0 H locs ls hR hLo (lv_sub hl [0, 2] rfl) heq
    · rw [if_neg hq] at heq
      refine lv_iload_n hx hb d_M_skip_52 rfl (lv_at hl 2 rfl) ?_
      refine lv_iload_n hx hb d_M_skip_53 rfl (lv_at hl 1 rfl) ?_
      refine lv_icmp_ge (tgt := 105) hx hb d_M_skip_54 rfl (fun hq => ?_) (fun hq => ?_)
      · rw [if_pos hq] at heq
        refine W.widen (k := 0) (n := 0) (by omega) (by omega) ?_
        exact k_M_skip_b105 hc hrm t0 x2 h0 H locs ls hR hLo (lv_sub hl [0, 2] rfl) heq
      · rw [if_neg hq] at heq
        refine lv_aload_n hx hb d_M_skip_57 rfl (lv_at hl 0 rfl) ?_
        refine lv_iload_n hx hb d_M_skip_58 rfl (lv_at hl 1 rfl) ?_
        refine lv_iload_n hx hb d_M_skip_59 rfl (lv_at hl 2 rfl) ?_
        refine lv_isub hx hb d_M_skip_60 ?_
        refine x_ck heq (fun tt fs ha ht heq => ?_)
        obtain rfl : tt = 8 := by simpa using ht
        refine x_bI (mc := 0) (ms := 0) (st := []) hc hLo heq ⟨by omega, by omega⟩ (fun r9 h9 => x_runV hc (c_M_reads hc.g rm_M_reads rk_M_reads _ _ _ _ h9) md_M_reads hR ha rfl wd_821 wd_823 sp_11 hl.1 ml_M_reads rfl (Nat.le_of_ble_eq_true rfl) d_M_skip_61 ⟨by show 4 + 1 ≤ _; omega, by show 8 + (3 + 11) + (94) ≤ _; omega⟩ ⟨by show 0 + 0 ≤ _; omega, by show 0 + 0 ≤ _; omega⟩) (fun v3 h3 H locs hR hLo heq => ?_)
        refine lv_istore_n (lv' := [(3, .int v3), (0, .ref t0), (1, .int x1), (2, .int x2)]) hx hb d_M_skip_64 rfl hl (by decide) rfl (fun ls hl => ?_)
        refine lv_iload_n hx hb d_M_skip_65 rfl (lv_at hl 0 rfl) ?_
        refine lv_if_ne (tgt := 78) hx hb d_M_skip_66 rfl (fun hq => ?_) (fun hq => ?_)
        · rw [if_neg hq] at heq
          refine W.widen (k := 0) (n := 0) (by omega) (by omega) ?_
          exact k_M_skip_b78 _ hc hrm hr48 t0 x1 x2 v3 h3 H locs ls hR hLo (lv_sub hl [1, 2, 3, 0] rfl) heq
        · rw [if_pos hq] at heq
          refine lv_iload_n hx hb d_M_skip_69 rfl (lv_at hl 3 rfl) ?_
          refine lv_if_ne (tgt := 78) hx hb d_M_skip_70 rfl (fun hq => ?_) (fun hq => ?_)
          · rw [if_neg hq] at heq
            refine W.widen (k := 0) (n := 0) (by omega) (by omega) ?_
            exact k_M_skip_b78 _ hc hrm hr48 t0 x1 x2 v3 h3 H locs ls hR hLo (lv_sub hl [1, 2, 3, 0] rfl) heq
          · rw [if_pos hq] at heq
            refine lv_aload_n hx hb d_M_skip_73 rfl (lv_at hl 1 rfl) ?_
            refine lv_iconst (v := 2) hx hb d_M_skip_74 (by decide) ?_
            refine x_pV hc hR hLo fl_M_65 (Or.inl rfl) rfl rfl heq d_M_skip_75 (fun h4 H locs hR hLo heq => ?_)
            refine W.widen (k := 0) (n := 0) (by omega) (by omega) ?_
            exact k_M_skip_b78 _ hc hrm hr48 t0 x1 x2 v3 h4 H locs ls hR hLo (lv_sub hl [1, 2, 3, 0] rfl) heq
set_option maxRecDepth 100000 in
set_option maxHeartbeats 4000000 in
theorem k_M_skip_b32 {p : Program} {l : Launch} {e : Env} {s : State} {m : MethodId} {args : Array Value} {below : List Frame} {meth : Method} {c : Code} {s0 : State} {A0 : Array Value} {G : Gx_t} {r : Outcome × Hs_t} {rm : Room} (hc : Cx_t p s m meth c s0 A0 l G y_M_skip b_M_skip 4 (some .int) []) (hrm : rm_Ok 0 0 5 116 rm) : ∀ (t0 : Nat) (x1 : Int32) (sv0 : Int32) (sv1 : Nat) (h0 : Hs_t) (H : Heap) (locs : List Loc) (ls : Array Slot), Rp_h G s0.heap h0 H → Lo_k s0 locs → lv_has ls 4 [(0, .ref t0), (1, .int x1)] → f_M_skip_b32 t0 x1 sv0 sv1 h0 = some r → W p l e rm s m args below meth c H locs 0 0 (xq_MQ G s0 below r s rm.cells rm.slots) (F0 m 32 ls [.int sv0, .ref sv1]) := by
  have hx := hc.x
  have hb := hc.b
  obtain ⟨hm1, hm2, hm3, hm4⟩ := id hrm
  intro t0 x1 sv0 sv1 h0 H locs ls hR hLo hl heq
  unfold f_M_skip_b32 at heq
  refine x_pV hc hR hLo fl_M_65 (Or.inl rfl) rfl rfl heq d_M_skip_32 (fun h2 H locs hR hLo heq => ?_)
  refine lv_aload_n hx hb d_M_skip_35 rfl (lv_at hl 0 rfl) ?_
  refine x_gI hc hR fl_M_65 heq d_M_skip_36 (fun v2 heq => ?_)
  refine lv_if_le (tgt := 44) hx hb d_M_skip_39 rfl (fun hq => ?_) (fun hq => ?_)
  · rw [if_pos hq] at heq
    refine lv_iconst (v := 0) hx hb d_M_skip_44 (by decide) ?_
    refine lv_istore_n (lv' := [(2, .int 0), (0, .ref t0), (1, .int x1)]) hx hb d_M_skip_45 rfl hl (by decide) rfl (fun ls hl => ?_)
    refine lv_iconst (v := 1) hx hb d_M_skip_46 (by decide) ?_
    refine lv_istore_n (lv' := [(3, .int 1), (2, .int 0), (0, .ref t0), (1, .int x1)]) hx hb d_M_skip_47 rfl hl (by decide) rfl (fun ls hl => ?_)
    refine W.widen (k := 0) (n := 0) (by omega) (by omega) ?_
    exact k_M_skip_b48 hc hrm fu_N t0 x1 0 1 h2 H locs ls hR hLo (lv_sub hl [2, 3, 1, 0] rfl) heq
  · rw [if_neg hq] at heq
    refine lv_iconst (v := 0) hx hb d_M_skip_42 (by decide) ?_
    exact x_iret hc hR hLo ⟨by omega, by omega⟩ heq d_M_skip_43
set_option maxRecDepth 100000 in
set_option maxHeartbeats 4000000 in
theorem k_M_skip_b27 {p : Program} {l : Launch} {e : Env} {s : State} {m : MethodId} {args : Array Value} {below : List Frame} {meth : Method} {c : Code} {s0 : State} {A0 : Array Value} {G : Gx_t} {r : Outcome × Hs_t} {rm : Room} (hc : Cx_t p s m meth c s0 A0 l G y_M_skip b_M_skip 4 (some .int) []) (hrm : rm_Ok 0 0 5 116 rm) : ∀ (t0 : Nat) (x1 : Int32) (sv0 : Nat) (h0 : Hs_t) (H : Heap) (locs : List Loc) (ls : Array Slot), Rp_h G s0.heap h0 H → Lo_k s0 locs → lv_has ls 4 [(0, .ref t0), (1, .int x1)] → f_M_skip_b27 t0 x1 sv0 h0 = some r → W p l e rm s m args below meth c H locs 0 0 (xq_MQ G s0 below r s rm.cells rm.slots) (F0 m 27 ls [.ref sv0]) := by
  have hx := hc.x
  have hb := hc.b
  obtain ⟨hm1, hm2, hm3, hm4⟩ := id hrm
  intro t0 x1 sv0 h0 H locs ls hR hLo hl heq
  unfold f_M_skip_b27 at heq
  refine lv_iconst (v := 1) hx hb d_M_skip_27 (by decide) ?_
  refine lv_goto (tgt := 32) hx hb d_M_skip_28 rfl ?_
  refine W.widen (k := 0) (n := 0) (by omega) (by omega) ?_
  exact k_M_skip_b32 hc hrm t0 x1 1 sv0 h0 H locs ls hR hLo (lv_sub hl [0, 1] rfl) heq
set_option maxRecDepth 100000 in
set_option maxHeartbeats 4000000 in
theorem c_M_skip {l : Launch} {s0 : State} {A0 : Array Value} {G : Gx_t} (hG : G_0 l s0 A0 G) (rm : Room) (hrm : rm_Ok 0 0 5 116 rm) (t0 : Nat) (x1 : Int32) (h0 : Hs_t) (r : Outcome × Hs_t) (heq : f_M_skip t0 x1 h0 = some r) : M_X G s0 l y_M_skip (.code y_M_skip b_M_skip 4 (some .int)) rm [.ref t0, .int x1] h0 r := by
  refine M_X.of (by decide) hG (fun p e s m below meth c H hc hR => ?_)
  have hx := hc.x
  have hb := hc.b
  obtain ⟨hm1, hm2, hm3, hm4⟩ := id hrm
  have hLo : Lo_k s0 [] := fun _ hq => absurd hq List.not_mem_nil
  have hl := lv_entry ([.ref t0, .int x1]) (n := 4) (Nat.le_of_ble_eq_true rfl)
  rw [lg_entry_eq]
  generalize (lg_sl ([.ref t0, .int x1]) ++ List.replicate (4 - (lg_sl ([.ref t0, .int x1])).length) Slot.unset).toArray = ls at hl ⊢
  have hl : lv_has ls 4 [(0, .ref t0), (1, .int x1)] := hl
  generalize hle : ([] : List Loc) = locs at hLo ⊢
  unfold f_M_skip at heq
  refine lv_aload_n hx hb d_M_skip_0 rfl (lv_at hl 0 rfl) ?_
  refine lv_iconst (v := 0) hx hb d_M_skip_1 (by decide) ?_
  refine x_pV hc hR hLo fl_M_123 (Or.inl rfl) rfl rfl heq d_M_skip_2 (fun h1 H locs hR hLo heq => ?_)
  refine lv_aload_n hx hb d_M_skip_5 rfl (lv_at hl 0 rfl) ?_
  refine lv_aload_n hx hb d_M_skip_6 rfl (lv_at hl 0 rfl) ?_
  refine x_gI hc hR fl_M_75 heq d_M_skip_7 (fun v1 heq => ?_)
  refine lv_if_eq (tgt := 17) hx hb d_M_skip_10 rfl (fun hq => ?_) (fun hq => ?_)
  · rw [if_pos hq] at heq
    refine lv_iload_n hx hb d_M_skip_17 rfl (lv_at hl 1 rfl) ?_
    refine lv_if_lt (tgt := 27) hx hb d_M_skip_18 rfl (fun hq => ?_) (fun hq => ?_)
    · rw [if_pos hq] at heq
      refine W.widen (k := 0) (n := 0) (by omega) (by omega) ?_
      exact k_M_skip_b27 hc hrm t0 x1 t0 h1 H locs ls hR hLo (lv_sub hl [0, 1] rfl) heq
    · rw [if_neg hq] at heq
      refine lv_iload_n hx hb d_M_skip_21 rfl (lv_at hl 1 rfl) ?_
      refine lv_bipush (v := 120) hx hb d_M_skip_22 (by decide) ?_
      refine lv_icmp_le (tgt := 31) hx hb d_M_skip_24 rfl (fun hq => ?_) (fun hq => ?_)
      · rw [if_pos hq] at heq
        refine lv_iconst (v := 0) hx hb d_M_skip_31 (by decide) ?_
        refine W.widen (k := 0) (n := 0) (by omega) (by omega) ?_
        exact k_M_skip_b32 hc hrm t0 x1 0 t0 h1 H locs ls hR hLo (lv_sub hl [0, 1] rfl) heq
      · rw [if_neg hq] at heq
        refine W.widen (k := 0) (n := 0) (by omega) (by omega) ?_
        exact k_M_skip_b27 hc hrm t0 x1 t0 h1 H locs ls hR hLo (lv_sub hl [0, 1] rfl) heq
  · rw [if_neg hq] at heq
    refine lv_iconst (v := 2) hx hb d_M_skip_13 (by decide) ?_
    refine lv_goto (tgt := 32) hx hb d_M_skip_14 rfl ?_
    refine W.widen (k := 0) (n := 0) (by omega) (by omega) ?_
    exact k_M_skip_b32 hc hrm t0 x1 2 t0 h1 H locs ls hR hLo (lv_sub hl [0, 1] rfl) heq
def rm_M_skip : Room := { frames := 5, cells := 0, slots := 0, locals := 116 }
theorem rk_M_skip : rm_Ok 0 0 5 116 rm_M_skip := ⟨Nat.le_refl _, Nat.le_refl _, Nat.le_refl _, Nat.le_refl _⟩
def f_M_number_b80 : Nat → Nat → Int32 → Int64 → Int32 → Hs_t → Rs_t
  | 0, _, _, _, _, _ => none
  | n + 1, t0, x1, x3, x5, h0 => if x1 ≤ x5 then (re_L x3 h0) else ((fd_A [8] 24 h0 t0).bind fun v5 => (ar_I h0 v5 x5).bind fun v6 => (f_M_number_b80 n) t0 x1 ((x3 <<< ((8 : Int32).toInt64 &&& 63)) ||| (v6 : Int32).toInt64) (x5 + 1) h0)
def f_M_number_b63 (t0 : Nat) (x1 : Int32) (sv0 : Int32) (sv1 : Nat) (h0 : Hs_t) : Rs_t := (pt_V [8] 0 h0 sv1 (.int sv0)).bind fun h4 => (fd_I [8] 0 h4 t0).bind fun v4 => if v4 ≤ 0 then (f_M_number_b80 fu_N t0 x1 0 0 h4) else (re_L 0 h4)
def f_M_number_b33 (t0 : Nat) (x1 : Int32) (sv0 : Int32) (sv1 : Nat) (h0 : Hs_t) : Rs_t := (pt_V [8] 0 h0 sv1 (.int sv0)).bind fun h2 => (fd_I [8] 0 h2 t0).bind fun v2 => if v2 ≤ 0 then ((ck_T [8] h2 t0).bind fun _ => bd_I (f_M_fill t0 x1 h2) (fun v3 h3 => if v3 = 0 then (f_M_number_b63 t0 x1 0 t0 h3) else (f_M_number_b63 t0 x1 (v3 + 1) t0 h3))) else (re_L 0 h2)
def f_M_number_b28 (t0 : Nat) (x1 : Int32) (sv0 : Nat) (h0 : Hs_t) : Rs_t := f_M_number_b33 t0 x1 1 sv0 h0
def f_M_number (t0 : Nat) (x1 : Int32) (h0 : Hs_t) : Rs_t := (pt_V [8] 25 h0 t0 (.int 0)).bind fun h1 => (fd_I [8] 21 h1 t0).bind fun v1 => if v1 = 0 then (if x1 < 1 then (f_M_number_b28 t0 x1 t0 h1) else (if x1 ≤ 8 then (f_M_number_b33 t0 x1 0 t0 h1) else (f_M_number_b28 t0 x1 t0 h1))) else (f_M_number_b33 t0 x1 2 t0 h1)
set_option maxRecDepth 100000 in
set_option maxHeartbeats 4000000 in
theorem k_M_number_b80 {p : Program} {l : Launch} {e : Env} {s : State} {m : MethodId} {args : Array Value} {below : List Frame} {meth : Method} {c : Code} {s0 : State} {A0 : Array Value} {G : Gx_t} {r : Outcome × Hs_t} {rm : Room} (hc : Cx_t p s m meth c s0 A0 l G y_M_number b_M_number 6 (some .long) []) (hrm : rm_Ok 0 0 6 138 rm) : ∀ (n : Nat) (t0 : Nat) (x1 : Int32) (x3 : Int64) (x5 : Int32) (h0 : Hs_t) (H : Heap) (locs : List Loc) (ls : Array Slot), Rp_h G s0.heap h0 H → Lo_k s0 locs → lv_has ls 6 [(0, .ref t0), (1, .int x1), (3, .long x3), (5, .int x5)] → f_M_number_b80 n t0 x1 x3 x5 h0 = some r → W p l e rm s m args below meth c H locs 0 0 (xq_MQ G s0 below r s rm.cells rm.slots) (F0 m 80 ls []) := by
  have hx := hc.x
  have hb := hc.b
  obtain ⟨hm1, hm2, hm3, hm4⟩ := id hrm
  intro n
  induction n with
  | zero =>
    intro t0 x1 x3 x5 h0 H locs ls hR hLo hl heq
    unfold f_M_number_b80 at heq
    cases heq
  | succ n hr80 =>
    intro t0 x1 x3 x5 h0 H locs ls hR hLo hl heq
    unfold f_M_number_b80 at heq
    refine lv_iload hx hb d_M_number_80 (lv_at hl 3 rfl) ?_
    refine lv_iload_n hx hb d_M_number_82 rfl (lv_at hl 1 rfl) ?_
    refine lv_icmp_ge (tgt := 106) hx hb d_M_number_83 rfl (fun hq => ?_) (fun hq => ?_)
    · rw [if_pos hq] at heq
      refine lv_lload_n hx hb d_M_number_106 rfl (lv_at hl 2 rfl) ?_
      exact x_lret hc hR hLo ⟨by omega, by omega⟩ heq d_M_number_107
    · rw [if_neg hq] at heq
      refine lv_lload_n hx hb d_M_number_86 rfl (lv_at hl 2 rfl) ?_
      refine lv_bipush (v := 8) hx hb d_M_number_87 (by decide) ?_
      refine lv_lshl (v := (x3 <<< ((8 : Int32).toInt64 &&& 63))) hx hb d_M_number_89 rfl ?_
      refine lv_aload_n hx hb d_M_number_90 rfl (lv_at hl 0 rfl) ?_
      refine x_gA hc hR fl_M_59 heq d_M_number_91 (fun v5 heq => ?_)
      refine lv_iload hx hb d_M_number_94 (lv_at hl 3 rfl) ?_
      refine x_aI hc hR heq d_M_number_96 (fun v6 heq => ?_)
      refine lv_i2l (v := (v6 : Int32).toInt64) hx hb d_M_number_97 rfl ?_
      refine lv_lor hx hb d_M_number_98 ?_
      refine lv_lstore_n (lv' := [(3, .long ((x3 <<< ((8 : Int32).toInt64 &&& 63)) ||| (v6 : Int32).toInt64)), (0, .ref t0), (1, .int x1), (5, .int x5)]) hx hb d_M_number_99 rfl hl (by decide) rfl (fun ls hl => ?_)
      refine lv_iinc (k := 3) (v := (x5 + 1)) (lv' := [(5, .int (x5 + 1)), (3, .long ((x3 <<< ((8 : Int32).toInt64 &&& 63)) ||| (v6 : Int32).toInt64)), (0, .ref t0), (1, .int x1)]) hx hb d_M_number_100 hl rfl rfl (by decide) rfl (fun ls hl => ?_)
      refine lv_goto (tgt := 80) hx hb d_M_number_103 rfl ?_
      refine W.widen (k := 0) (n := 0) (by omega) (by omega) ?_
      exact hr80 t0 x1 ((x3 <<< ((8 : Int32).toInt64 &&& 63)) ||| (v6 : Int32).toInt64) (x5 + 1) h0 H locs ls hR hLo (lv_sub hl [2, 3, 1, 0] rfl) heq
set_option maxRecDepth 100000 in
set_option maxHeartbeats 4000000 in
theorem k_M_number_b63 {p : Program} {l : Launch} {e : Env} {s : State} {m : MethodId} {args : Array Value} {below : List Frame} {meth : Method} {c : Code} {s0 : State} {A0 : Array Value} {G : Gx_t} {r : Outcome × Hs_t} {rm : Room} (hc : Cx_t p s m meth c s0 A0 l G y_M_number b_M_number 6 (some .long) []) (hrm : rm_Ok 0 0 6 138 rm) : ∀ (t0 : Nat) (x1 : Int32) (sv0 : Int32) (sv1 : Nat) (h0 : Hs_t) (H : Heap) (locs : List Loc) (ls : Array Slot), Rp_h G s0.heap h0 H → Lo_k s0 locs → lv_has ls 6 [(0, .ref t0), (1, .int x1)] → f_M_number_b63 t0 x1 sv0 sv1 h0 = some r → W p l e rm s m args below meth c H locs 0 0 (xq_MQ G s0 below r s rm.cells rm.slots) (F0 m 63 ls [.int sv0, .ref sv1]) := by
  have hx := hc.x
  have hb := hc.b
  obtain ⟨hm1, hm2, hm3, hm4⟩ := id hrm
  intro t0 x1 sv0 sv1 h0 H locs ls hR hLo hl heq
  unfold f_M_number_b63 at heq
  refine x_pV hc hR hLo fl_M_65 (Or.inl rfl) rfl rfl heq d_M_number_63 (fun h4 H locs hR hLo heq => ?_)
  refine lv_aload_n hx hb d_M_number_66 rfl (lv_at hl 0 rfl) ?_
  refine x_gI hc hR fl_M_65 heq d_M_number_67 (fun v4 heq => ?_)
  refine lv_if_le (tgt := 75) hx hb d_M_number_70 rfl (fun hq => ?_) (fun hq => ?_)
  · rw [if_pos hq] at heq
    refine lv_lconst (v := 0) hx hb d_M_number_75 (by decide) ?_
    refine lv_lstore_n (lv' := [(3, .long 0), (0, .ref t0), (1, .int x1)]) hx hb d_M_number_76 rfl hl (by decide) rfl (fun ls hl => ?_)
    refine lv_iconst (v := 0) hx hb d_M_number_77 (by decide) ?_
    refine lv_istore (lv' := [(5, .int 0), (3, .long 0), (0, .ref t0), (1, .int x1)]) hx hb d_M_number_78 hl (by decide) rfl (fun ls hl => ?_)
    refine W.widen (k := 0) (n := 0) (by omega) (by omega) ?_
    exact k_M_number_b80 hc hrm fu_N t0 x1 0 0 h4 H locs ls hR hLo (lv_sub hl [2, 3, 1, 0] rfl) heq
  · rw [if_neg hq] at heq
    refine lv_lconst (v := 0) hx hb d_M_number_73 (by decide) ?_
    exact x_lret hc hR hLo ⟨by omega, by omega⟩ heq d_M_number_74
set_option maxRecDepth 100000 in
set_option maxHeartbeats 4000000 in
theorem k_M_number_b33 {p : Program} {l : Launch} {e : Env} {s : State} {m : MethodId} {args : Array Value} {below : List Frame} {meth : Method} {c : Code} {s0 : State} {A0 : Array Value} {G : Gx_t} {r : Outcome × Hs_t} {rm : Room} (hc : Cx_t p s m meth c s0 A0 l G y_M_number b_M_number 6 (some .long) []) (hrm : rm_Ok 0 0 6 138 rm) : ∀ (t0 : Nat) (x1 : Int32) (sv0 : Int32) (sv1 : Nat) (h0 : Hs_t) (H : Heap) (locs : List Loc) (ls : Array Slot), Rp_h G s0.heap h0 H → Lo_k s0 locs → lv_has ls 6 [(0, .ref t0), (1, .int x1)] → f_M_number_b33 t0 x1 sv0 sv1 h0 = some r → W p l e rm s m args below meth c H locs 0 0 (xq_MQ G s0 below r s rm.cells rm.slots) (F0 m 33 ls [.int sv0, .ref sv1]) := by
  have hx := hc.x
  have hb := hc.b
  obtain ⟨hm1, hm2, hm3, hm4⟩ := id hrm
  intro t0 x1 sv0 sv1 h0 H locs ls hR hLo hl heq
  unfold f_M_number_b33 at heq
  refine x_pV hc hR hLo fl_M_65 (Or.inl rfl) rfl rfl heq d_M_number_33 (fun h2 H locs hR hLo heq => ?_)
  refine lv_aload_n hx hb d_M_number_36 rfl (lv_at hl 0 rfl) ?_
  refine x_gI hc hR fl_M_65 heq d_M_number_37 (fun v2 heq => ?_)
  refine lv_if_le (tgt := 45) hx hb d_M_number_40 rfl (fun hq => ?_) (fun hq => ?_)
  · rw [if_pos hq] at heq
    refine lv_aload_n hx hb d_M_number_45 rfl (lv_at hl 0 rfl) ?_
    refine lv_iload_n hx hb d_M_number_46 rfl (lv_at hl 1 rfl) ?_
    refine x_ck heq (fun tt fs ha ht heq => ?_)
    obtain rfl : tt = 8 := by simpa using ht
    refine x_bI (mc := 0) (ms := 0) (st := []) hc hLo heq ⟨by omega, by omega⟩ (fun r9 h9 => x_runV hc (c_M_fill hc.g rm_M_fill rk_M_fill _ _ _ _ h9) md_M_fill hR ha rfl wd_877 wd_879 sp_23 hl.1 ml_M_fill rfl (Nat.le_of_ble_eq_true rfl) d_M_number_47 ⟨by show 5 + 1 ≤ _; omega, by show 8 + (3 + 11) + (116) ≤ _; omega⟩ ⟨by show 0 + 0 ≤ _; omega, by show 0 + 0 ≤ _; omega⟩) (fun v3 h3 H locs hR hLo heq => ?_)
    refine lv_istore_n (lv' := [(2, .int v3), (0, .ref t0), (1, .int x1)]) hx hb d_M_number_50 rfl hl (by decide) rfl (fun ls hl => ?_)
    refine lv_aload_n hx hb d_M_number_51 rfl (lv_at hl 1 rfl) ?_
    refine lv_iload_n hx hb d_M_number_52 rfl (lv_at hl 0 rfl) ?_
    refine lv_if_ne (tgt := 60) hx hb d_M_number_53 rfl (fun hq => ?_) (fun hq => ?_)
    · rw [if_neg hq] at heq
      refine lv_iload_n hx hb d_M_number_60 rfl (lv_at hl 0 rfl) ?_
      refine lv_iconst (v := 1) hx hb d_M_number_61 (by decide) ?_
      refine lv_iadd hx hb d_M_number_62 ?_
      refine W.widen (k := 0) (n := 0) (by omega) (by omega) ?_
      exact k_M_number_b63 hc hrm t0 x1 (v3 + 1) t0 h3 H locs ls hR hLo (lv_sub hl [1, 2] rfl) heq
    · rw [if_pos hq] at heq
      refine lv_iconst (v := 0) hx hb d_M_number_56 (by decide) ?_
      refine lv_goto (tgt := 63) hx hb d_M_number_57 rfl ?_
      refine W.widen (k := 0) (n := 0) (by omega) (by omega) ?_
      exact k_M_number_b63 hc hrm t0 x1 0 t0 h3 H locs ls hR hLo (lv_sub hl [1, 2] rfl) heq
  · rw [if_neg hq] at heq
    refine lv_lconst (v := 0) hx hb d_M_number_43 (by decide) ?_
    exact x_lret hc hR hLo ⟨by omega, by omega⟩ heq d_M_number_44
set_option maxRecDepth 100000 in
set_option maxHeartbeats 4000000 in
theorem k_M_number_b28 {p : Program} {l : Launch} {e : Env} {s : State} {m : MethodId} {args : Array Value} {below : List Frame} {meth : Method} {c : Code} {s0 : State} {A0 : Array Value} {G : Gx_t} {r : Outcome × Hs_t} {rm : Room} (hc : Cx_t p s m meth c s0 A0 l G y_M_number b_M_number 6 (some .long) []) (hrm : rm_Ok 0 0 6 138 rm) : ∀ (t0 : Nat) (x1 : Int32) (sv0 : Nat) (h0 : Hs_t) (H : Heap) (locs : List Loc) (ls : Array Slot), Rp_h G s0.heap h0 H → Lo_k s0 locs → lv_has ls 6 [(0, .ref t0), (1, .int x1)] → f_M_number_b28 t0 x1 sv0 h0 = some r → W p l e rm s m args below meth c H locs 0 0 (xq_MQ G s0 below r s rm.cells rm.slots) (F0 m 28 ls [.ref sv0]) := by
  have hx := hc.x
  have hb := hc.b
  obtain ⟨hm1, hm2, hm3, hm4⟩ := id hrm
  intro t0 x1 sv0 h0 H locs ls hR hLo hl heq
  unfold f_M_number_b28 at heq
  refine lv_iconst (v := 1) hx hb d_M_number_28 (by decide) ?_
  refine lv_goto (tgt := 33) hx hb d_M_number_29 rfl ?_
  refine W.widen (k := 0) (n := 0) (by omega) (by omega) ?_
  exact k_M_number_b33 hc hrm t0 x1 1 sv0 h0 H locs ls hR hLo (lv_sub hl [0, 1] rfl) heq
set_option maxRecDepth 100000 in
set_option maxHeartbeats 4000000 in
theorem c_M_number {l : Launch} {s0 : State} {A0 : Array Value} {G : Gx_t} (hG : G_0 l s0 A0 G) (rm : Room) (hrm : rm_Ok 0 0 6 138 rm) (t0 : Nat) (x1 : Int32) (h0 : Hs_t) (r : Outcome × Hs_t) (heq : f_M_number t0 x1 h0 = some r) : M_X G s0 l y_M_number (.code y_M_number b_M_number 6 (some .long)) rm [.ref t0, .int x1] h0 r := by
  refine M_X.of (by decide) hG (fun p e s m below meth c H hc hR => ?_)
  have hx := hc.x
  have hb := hc.b
  obtain ⟨hm1, hm2, hm3, hm4⟩ := id hrm
  have hLo : Lo_k s0 [] := fun _ hq => absurd hq List.not_mem_nil
  have hl := lv_entry ([.ref t0, .int x1]) (n := 6) (Nat.le_of_ble_eq_true rfl)
  rw [lg_entry_eq]
  generalize (lg_sl ([.ref t0, .int x1]) ++ List.replicate (6 - (lg_sl ([.ref t0, .int x1])).length) Slot.unset).toArray = ls at hl ⊢
  have hl : lv_has ls 6 [(0, .ref t0), (1, .int x1)] := hl
  generalize hle : ([] : List Loc) = locs at hLo ⊢
  unfold f_M_number at heq
  refine lv_aload_n hx hb d_M_number_0 rfl (lv_at hl 0 rfl) ?_
  refine lv_iconst (v := 0) hx hb d_M_number_1 (by decide) ?_
  refine x_pV hc hR hLo fl_M_123 (Or.inl rfl) rfl rfl heq d_M_number_2 (fun h1 H locs hR hLo heq => ?_)
  refine lv_aload_n hx hb d_M_number_5 rfl (lv_at hl 0 rfl) ?_
  refine lv_aload_n hx hb d_M_number_6 rfl (lv_at hl 0 rfl) ?_
  refine x_gI hc hR fl_M_75 heq d_M_number_7 (fun v1 heq => ?_)
  refine lv_if_eq (tgt := 17) hx hb d_M_number_10 rfl (fun hq => ?_) (fun hq => ?_)
  · rw [if_pos hq] at heq
    refine lv_iload_n hx hb d_M_number_17 rfl (lv_at hl 1 rfl) ?_
    refine lv_iconst (v := 1) hx hb d_M_number_18 (by decide) ?_
    refine lv_icmp_lt (tgt := 28) hx hb d_M_number_19 rfl (fun hq => ?_) (fun hq => ?_)
    · rw [if_pos hq] at heq
      refine W.widen (k := 0) (n := 0) (by omega) (by omega) ?_
      exact k_M_number_b28 hc hrm t0 x1 t0 h1 H locs ls hR hLo (lv_sub hl [0, 1] rfl) heq
    · rw [if_neg hq] at heq
      refine lv_iload_n hx hb d_M_number_22 rfl (lv_at hl 1 rfl) ?_
      refine lv_bipush (v := 8) hx hb d_M_number_23 (by decide) ?_
      refine lv_icmp_le (tgt := 32) hx hb d_M_number_25 rfl (fun hq => ?_) (fun hq => ?_)
      · rw [if_pos hq] at heq
        refine lv_iconst (v := 0) hx hb d_M_number_32 (by decide) ?_
        refine W.widen (k := 0) (n := 0) (by omega) (by omega) ?_
        exact k_M_number_b33 hc hrm t0 x1 0 t0 h1 H locs ls hR hLo (lv_sub hl [0, 1] rfl) heq
      · rw [if_neg hq] at heq
        refine W.widen (k := 0) (n := 0) (by omega) (by omega) ?_
        exact k_M_number_b28 hc hrm t0 x1 t0 h1 H locs ls hR hLo (lv_sub hl [0, 1] rfl) heq
  · rw [if_neg hq] at heq
    refine lv_iconst (v := 2) hx hb d_M_number_13 (by decide) ?_
    refine lv_goto (tgt := 33) hx hb d_M_number_14 rfl ?_
    refine W.widen (k := 0) (n := 0) (by omega) (by omega) ?_
    exact k_M_number_b33 hc hrm t0 x1 2 t0 h1 H locs ls hR hLo (lv_sub hl [0, 1] rfl) heq
def rm_M_number : Room := { frames := 6, cells := 0, slots := 0, locals := 138 }
theorem rk_M_number : rm_Ok 0 0 6 138 rm_M_number := ⟨Nat.le_refl _, Nat.le_refl _, Nat.le_refl _, Nat.le_refl _⟩
def f_M_further_b29 (sv0 : Int32) (h0 : Hs_t) : Rs_t := re_Z sv0 h0
def f_M_further_b28 (h0 : Hs_t) : Rs_t := f_M_further_b29 0 h0
def f_M_further (t0 : Nat) (x1 : Int32) (h0 : Hs_t) : Rs_t := (fd_I [8] 25 h0 t0).bind fun v1 => if v1 ≤ x1 then (f_M_further_b28 h0) else ((fd_A [8] 24 h0 t0).bind fun v2 => (ar_I h0 v2 x1).bind fun v3 => if (v3 &&& 192) = 128 then (f_M_further_b29 1 h0) else (f_M_further_b28 h0))
set_option maxRecDepth 100000 in
set_option maxHeartbeats 4000000 in
theorem k_M_further_b29 {p : Program} {l : Launch} {e : Env} {s : State} {m : MethodId} {args : Array Value} {below : List Frame} {meth : Method} {c : Code} {s0 : State} {A0 : Array Value} {G : Gx_t} {r : Outcome × Hs_t} {rm : Room} (hc : Cx_t p s m meth c s0 A0 l G y_M_further b_M_further 2 (some .boolean) []) (hrm : rm_Ok 0 0 0 0 rm) : ∀ (sv0 : Int32) (h0 : Hs_t) (H : Heap) (locs : List Loc) (ls : Array Slot), Rp_h G s0.heap h0 H → Lo_k s0 locs → lv_has ls 2 [] → f_M_further_b29 sv0 h0 = some r → W p l e rm s m args below meth c H locs 0 0 (xq_MQ G s0 below r s rm.cells rm.slots) (F0 m 29 ls [.int sv0]) := by
  have hx := hc.x
  have hb := hc.b
  obtain ⟨hm1, hm2, hm3, hm4⟩ := id hrm
  intro sv0 h0 H locs ls hR hLo hl heq
  unfold f_M_further_b29 at heq
  exact x_zret hc hR hLo ⟨by omega, by omega⟩ heq d_M_further_29
set_option maxRecDepth 100000 in
set_option maxHeartbeats 4000000 in
theorem k_M_further_b28 {p : Program} {l : Launch} {e : Env} {s : State} {m : MethodId} {args : Array Value} {below : List Frame} {meth : Method} {c : Code} {s0 : State} {A0 : Array Value} {G : Gx_t} {r : Outcome × Hs_t} {rm : Room} (hc : Cx_t p s m meth c s0 A0 l G y_M_further b_M_further 2 (some .boolean) []) (hrm : rm_Ok 0 0 0 0 rm) : ∀  (h0 : Hs_t) (H : Heap) (locs : List Loc) (ls : Array Slot), Rp_h G s0.heap h0 H → Lo_k s0 locs → lv_has ls 2 [] → f_M_further_b28  h0 = some r → W p l e rm s m args below meth c H locs 0 0 (xq_MQ G s0 below r s rm.cells rm.slots) (F0 m 28 ls []) := by
  have hx := hc.x
  have hb := hc.b
  obtain ⟨hm1, hm2, hm3, hm4⟩ := id hrm
  intro  h0 H locs ls hR hLo hl heq
  unfold f_M_further_b28 at heq
  refine lv_iconst (v := 0) hx hb d_M_further_28 (by decide) ?_
  refine W.widen (k := 0) (n := 0) (by omega) (by omega) ?_
  exact k_M_further_b29 hc hrm 0 h0 H locs ls hR hLo (lv_sub hl [] rfl) heq
set_option maxRecDepth 100000 in
set_option maxHeartbeats 4000000 in
theorem c_M_further {l : Launch} {s0 : State} {A0 : Array Value} {G : Gx_t} (hG : G_0 l s0 A0 G) (rm : Room) (hrm : rm_Ok 0 0 0 0 rm) (t0 : Nat) (x1 : Int32) (h0 : Hs_t) (r : Outcome × Hs_t) (heq : f_M_further t0 x1 h0 = some r) : M_X G s0 l y_M_further (.code y_M_further b_M_further 2 (some .boolean)) rm [.ref t0, .int x1] h0 r := by
  refine M_X.of (by decide) hG (fun p e s m below meth c H hc hR => ?_)
  have hx := hc.x
  have hb := hc.b
  obtain ⟨hm1, hm2, hm3, hm4⟩ := id hrm
  have hLo : Lo_k s0 [] := fun _ hq => absurd hq List.not_mem_nil
  have hl := lv_entry ([.ref t0, .int x1]) (n := 2) (Nat.le_of_ble_eq_true rfl)
  rw [lg_entry_eq]
  generalize (lg_sl ([.ref t0, .int x1]) ++ List.replicate (2 - (lg_sl ([.ref t0, .int x1])).length) Slot.unset).toArray = ls at hl ⊢
  have hl : lv_has ls 2 [(0, .ref t0), (1, .int x1)] := hl
  generalize hle : ([] : List Loc) = locs at hLo ⊢
  unfold f_M_further at heq
  refine lv_iload_n hx hb d_M_further_0 rfl (lv_at hl 1 rfl) ?_
  refine lv_aload_n hx hb d_M_further_1 rfl (lv_at hl 0 rfl) ?_
  refine x_gI hc hR fl_M_123 heq d_M_further_2 (fun v1 heq => ?_)
  refine lv_icmp_ge (tgt := 28) hx hb d_M_further_5 rfl (fun hq => ?_) (fun hq => ?_)
  · rw [if_pos hq] at heq
    refine W.widen (k := 0) (n := 0) (by omega) (by omega) ?_
    exact k_M_further_b28 hc hrm h0 H locs ls hR hLo (lv_sub hl [] rfl) heq
  · rw [if_neg hq] at heq
    refine lv_aload_n hx hb d_M_further_8 rfl (lv_at hl 0 rfl) ?_
    refine x_gA hc hR fl_M_59 heq d_M_further_9 (fun v2 heq => ?_)
    refine lv_iload_n hx hb d_M_further_12 rfl (lv_at hl 1 rfl) ?_
    refine x_aI hc hR heq d_M_further_13 (fun v3 heq => ?_)
    refine lv_sipush (v := 192) hx hb d_M_further_14 (by decide) ?_
    refine lv_iand hx hb d_M_further_17 ?_
    refine lv_sipush (v := 128) hx hb d_M_further_18 (by decide) ?_
    refine lv_icmp_ne (tgt := 28) hx hb d_M_further_21 rfl (fun hq => ?_) (fun hq => ?_)
    · rw [if_neg hq] at heq
      refine W.widen (k := 0) (n := 0) (by omega) (by omega) ?_
      exact k_M_further_b28 hc hrm h0 H locs ls hR hLo (lv_sub hl [] rfl) heq
    · rw [if_pos hq] at heq
      refine lv_iconst (v := 1) hx hb d_M_further_24 (by decide) ?_
      refine lv_goto (tgt := 29) hx hb d_M_further_25 rfl ?_
      refine W.widen (k := 0) (n := 0) (by omega) (by omega) ?_
      exact k_M_further_b29 hc hrm 1 h0 H locs ls hR hLo (lv_sub hl [] rfl) heq
def rm_M_further : Room := { frames := 0, cells := 0, slots := 0, locals := 0 }
theorem rk_M_further : rm_Ok 0 0 0 0 rm_M_further := ⟨Nat.le_refl _, Nat.le_refl _, Nat.le_refl _, Nat.le_refl _⟩
def f_M_letterSize_b79 (sv0 : Int32) (h0 : Hs_t) : Rs_t := re_I sv0 h0
def f_M_letterSize_b78 (h0 : Hs_t) : Rs_t := f_M_letterSize_b79 0 h0
def f_M_letterSize_b42 (sv0 : Int32) (h0 : Hs_t) : Rs_t := re_I sv0 h0
def f_M_letterSize (t0 : Nat) (x1 : Int32) (h0 : Hs_t) : Rs_t := (fd_A [8] 24 h0 t0).bind fun v1 => (ar_I h0 v1 x1).bind fun v2 => if 128 ≤ v2 then (if (v2 &&& 224) = 192 then ((ck_T [8] h0 t0).bind fun _ => bd_I (f_M_further t0 (x1 + 1) h0) (fun v5 h3 => if v5 = 0 then (f_M_letterSize_b42 0 h3) else (f_M_letterSize_b42 2 h3))) else (if (v2 &&& 240) = 224 then ((ck_T [8] h0 t0).bind fun _ => bd_I (f_M_further t0 (x1 + 1) h0) (fun v3 h1 => if v3 = 0 then (f_M_letterSize_b78 h1) else ((ck_T [8] h1 t0).bind fun _ => bd_I (f_M_further t0 (x1 + 2) h1) (fun v4 h2 => if v4 = 0 then (f_M_letterSize_b78 h2) else (f_M_letterSize_b79 3 h2))))) else (f_M_letterSize_b78 h0))) else (re_I 1 h0)
set_option maxRecDepth 100000 in
set_option maxHeartbeats 4000000 in
theorem k_M_letterSize_b79 {p : Program} {l : Launch} {e : Env} {s : State} {m : MethodId} {args : Array Value} {below : List Frame} {meth : Method} {c : Code} {s0 : State} {A0 : Array Value} {G : Gx_t} {r : Outcome × Hs_t} {rm : Room} (hc : Cx_t p s m meth c s0 A0 l G y_M_letterSize b_M_letterSize 3 (some .int) []) (hrm : rm_Ok 0 0 1 21 rm) : ∀ (sv0 : Int32) (h0 : Hs_t) (H : Heap) (locs : List Loc) (ls : Array Slot), Rp_h G s0.heap h0 H → Lo_k s0 locs → lv_has ls 3 [] → f_M_letterSize_b79 sv0 h0 = some r → W p l e rm s m args below meth c H locs 0 0 (xq_MQ G s0 below r s rm.cells rm.slots) (F0 m 79 ls [.int sv0]) := by
  have hx := hc.x
  have hb := hc.b
  obtain ⟨hm1, hm2, hm3, hm4⟩ := id hrm
  intro sv0 h0 H locs ls hR hLo hl heq
  unfold f_M_letterSize_b79 at heq
  exact x_iret hc hR hLo ⟨by omega, by omega⟩ heq d_M_letterSize_79
set_option maxRecDepth 100000 in
set_option maxHeartbeats 4000000 in
theorem k_M_letterSize_b78 {p : Program} {l : Launch} {e : Env} {s : State} {m : MethodId} {args : Array Value} {below : List Frame} {meth : Method} {c : Code} {s0 : State} {A0 : Array Value} {G : Gx_t} {r : Outcome × Hs_t} {rm : Room} (hc : Cx_t p s m meth c s0 A0 l G y_M_letterSize b_M_letterSize 3 (some .int) []) (hrm : rm_Ok 0 0 1 21 rm) : ∀  (h0 : Hs_t) (H : Heap) (locs : List Loc) (ls : Array Slot), Rp_h G s0.heap h0 H → Lo_k s0 locs → lv_has ls 3 [] → f_M_letterSize_b78  h0 = some r → W p l e rm s m args below meth c H locs 0 0 (xq_MQ G s0 below r s rm.cells rm.slots) (F0 m 78 ls []) := by
  have hx := hc.x
  have hb := hc.b
  obtain ⟨hm1, hm2, hm3, hm4⟩ := id hrm
  intro  h0 H locs ls hR hLo hl heq
  unfold f_M_letterSize_b78 at heq
  refine lv_iconst (v := 0) hx hb d_M_letterSize_78 (by decide) ?_
  refine W.widen (k := 0) (n := 0) (by omega) (by omega) ?_
  exact k_M_letterSize_b79 hc hrm 0 h0 H locs ls hR hLo (lv_sub hl [] rfl) heq
set_option maxRecDepth 100000 in
set_option maxHeartbeats 4000000 in
theorem k_M_letterSize_b42 {p : Program} {l : Launch} {e : Env} {s : State} {m : MethodId} {args : Array Value} {below : List Frame} {meth : Method} {c : Code} {s0 : State} {A0 : Array Value} {G : Gx_t} {r : Outcome × Hs_t} {rm : Room} (hc : Cx_t p s m meth c s0 A0 l G y_M_letterSize b_M_letterSize 3 (some .int) []) (hrm : rm_Ok 0 0 1 21 rm) : ∀ (sv0 : Int32) (h0 : Hs_t) (H : Heap) (locs : List Loc) (ls : Array Slot), Rp_h G s0.heap h0 H → Lo_k s0 locs → lv_has ls 3 [] → f_M_letterSize_b42 sv0 h0 = some r → W p l e rm s m args below meth c H locs 0 0 (xq_MQ G s0 below r s rm.cells rm.slots) (F0 m 42 ls [.int sv0]) := by
  have hx := hc.x
  have hb := hc.b
  obtain ⟨hm1, hm2, hm3, hm4⟩ := id hrm
  intro sv0 h0 H locs ls hR hLo hl heq
  unfold f_M_letterSize_b42 at heq
  exact x_iret hc hR hLo ⟨by omega, by omega⟩ heq d_M_letterSize_42
set_option maxRecDepth 100000 in
set_option maxHeartbeats 4000000 in
theorem c_M_letterSize {l : Launch} {s0 : State} {A0 : Array Value} {G : Gx_t} (hG : G_0 l s0 A0 G) (rm : Room) (hrm : rm_Ok 0 0 1 21 rm) (t0 : Nat) (x1 : Int32) (h0 : Hs_t) (r : Outcome × Hs_t) (heq : f_M_letterSize t0 x1 h0 = some r) : M_X G s0 l y_M_letterSize (.code y_M_letterSize b_M_letterSize 3 (some .int)) rm [.ref t0, .int x1] h0 r := by
  refine M_X.of (by decide) hG (fun p e s m below meth c H hc hR => ?_)
  have hx := hc.x
  have hb := hc.b
  obtain ⟨hm1, hm2, hm3, hm4⟩ := id hrm
  have hLo : Lo_k s0 [] := fun _ hq => absurd hq List.not_mem_nil
  have hl := lv_entry ([.ref t0, .int x1]) (n := 3) (Nat.le_of_ble_eq_true rfl)
  rw [lg_entry_eq]
  generalize (lg_sl ([.ref t0, .int x1]) ++ List.replicate (3 - (lg_sl ([.ref t0, .int x1])).length) Slot.unset).toArray = ls at hl ⊢
  have hl : lv_has ls 3 [(0, .ref t0), (1, .int x1)] := hl
  generalize hle : ([] : List Loc) = locs at hLo ⊢
  unfold f_M_letterSize at heq
  refine lv_aload_n hx hb d_M_letterSize_0 rfl (lv_at hl 0 rfl) ?_
  refine x_gA hc hR fl_M_59 heq d_M_letterSize_1 (fun v1 heq => ?_)
  refine lv_iload_n hx hb d_M_letterSize_4 rfl (lv_at hl 1 rfl) ?_
  refine x_aI hc hR heq d_M_letterSize_5 (fun v2 heq => ?_)
  refine lv_istore_n (lv' := [(2, .int v2), (0, .ref t0), (1, .int x1)]) hx hb d_M_letterSize_6 rfl hl (by decide) rfl (fun ls hl => ?_)
  refine lv_iload_n hx hb d_M_letterSize_7 rfl (lv_at hl 0 rfl) ?_
  refine lv_sipush (v := 128) hx hb d_M_letterSize_8 (by decide) ?_
  refine lv_icmp_ge (tgt := 16) hx hb d_M_letterSize_11 rfl (fun hq => ?_) (fun hq => ?_)
  · rw [if_pos hq] at heq
    refine lv_iload_n hx hb d_M_letterSize_16 rfl (lv_at hl 0 rfl) ?_
    refine lv_sipush (v := 224) hx hb d_M_letterSize_17 (by decide) ?_
    refine lv_iand hx hb d_M_letterSize_20 ?_
    refine lv_sipush (v := 192) hx hb d_M_letterSize_21 (by decide) ?_
    refine lv_icmp_ne (tgt := 43) hx hb d_M_letterSize_24 rfl (fun hq => ?_) (fun hq => ?_)
    · rw [if_neg hq] at heq
      refine lv_iload_n hx hb d_M_letterSize_43 rfl (lv_at hl 0 rfl) ?_
      refine lv_sipush (v := 240) hx hb d_M_letterSize_44 (by decide) ?_
      refine lv_iand hx hb d_M_letterSize_47 ?_
      refine lv_sipush (v := 224) hx hb d_M_letterSize_48 (by decide) ?_
      refine lv_icmp_ne (tgt := 78) hx hb d_M_letterSize_51 rfl (fun hq => ?_) (fun hq => ?_)
      · rw [if_neg hq] at heq
        refine W.widen (k := 0) (n := 0) (by omega) (by omega) ?_
        exact k_M_letterSize_b78 hc hrm h0 H locs ls hR hLo (lv_sub hl [] rfl) heq
      · rw [if_pos hq] at heq
        refine lv_aload_n hx hb d_M_letterSize_54 rfl (lv_at hl 1 rfl) ?_
        refine lv_iload_n hx hb d_M_letterSize_55 rfl (lv_at hl 2 rfl) ?_
        refine lv_iconst (v := 1) hx hb d_M_letterSize_56 (by decide) ?_
        refine lv_iadd hx hb d_M_letterSize_57 ?_
        refine x_ck heq (fun tt fs ha ht heq => ?_)
        obtain rfl : tt = 8 := by simpa using ht
        refine x_bI (mc := 0) (ms := 0) (st := []) hc hLo heq ⟨by omega, by omega⟩ (fun r9 h9 => x_runV hc (c_M_further hc.g rm_M_further rk_M_further _ _ _ _ h9) md_M_further hR ha rfl wd_897 wd_899 sp_25 hl.1 ml_M_further rfl (Nat.le_of_ble_eq_true rfl) d_M_letterSize_58 ⟨by show 0 + 1 ≤ _; omega, by show 8 + (2 + 11) + (0) ≤ _; omega⟩ ⟨by show 0 + 0 ≤ _; omega, by show 0 + 0 ≤ _; omega⟩) (fun v3 h1 H locs hR hLo heq => ?_)
        refine lv_if_eq (tgt := 78) hx hb d_M_letterSize_61 rfl (fun hq => ?_) (fun hq => ?_)
        · rw [if_pos hq] at heq
          refine W.widen (k := 0) (n := 0) (by omega) (by omega) ?_
          exact k_M_letterSize_b78 hc hrm h1 H locs ls hR hLo (lv_sub hl [] rfl) heq
        · rw [if_neg hq] at heq
          refine lv_aload_n hx hb d_M_letterSize_64 rfl (lv_at hl 1 rfl) ?_
          refine lv_iload_n hx hb d_M_letterSize_65 rfl (lv_at hl 2 rfl) ?_
          refine lv_iconst (v := 2) hx hb d_M_letterSize_66 (by decide) ?_
          refine lv_iadd hx hb d_M_letterSize_67 ?_
          refine x_ck heq (fun tt fs ha ht heq => ?_)
          obtain rfl : tt = 8 := by simpa using ht
          refine x_bI (mc := 0) (ms := 0) (st := []) hc hLo heq ⟨by omega, by omega⟩ (fun r9 h9 => x_runV hc (c_M_further hc.g rm_M_further rk_M_further _ _ _ _ h9) md_M_further hR ha rfl wd_897 wd_899 sp_25 hl.1 ml_M_further rfl (Nat.le_of_ble_eq_true rfl) d_M_letterSize_68 ⟨by show 0 + 1 ≤ _; omega, by show 8 + (2 + 11) + (0) ≤ _; omega⟩ ⟨by show 0 + 0 ≤ _; omega, by show 0 + 0 ≤ _; omega⟩) (fun v4 h2 H locs hR hLo heq => ?_)
          refine lv_if_eq (tgt := 78) hx hb d_M_letterSize_71 rfl (fun hq => ?_) (fun hq => ?_)
          · rw [if_pos hq] at heq
            refine W.widen (k := 0) (n := 0) (by omega) (by omega) ?_
            exact k_M_letterSize_b78 hc hrm h2 H locs ls hR hLo (lv_sub hl [] rfl) heq
          · rw [if_neg hq] at heq
            refine lv_iconst (v := 3) hx hb d_M_letterSize_74 (by decide) ?_
            refine lv_goto (tgt := 79) hx hb d_M_letterSize_75 rfl ?_
            refine W.widen (k := 0) (n := 0) (by omega) (by omega) ?_
            exact k_M_letterSize_b79 hc hrm 3 h2 H locs ls hR hLo (lv_sub hl [] rfl) heq
    · rw [if_pos hq] at heq
      refine lv_aload_n hx hb d_M_letterSize_27 rfl (lv_at hl 1 rfl) ?_
      refine lv_iload_n hx hb d_M_letterSize_28 rfl (lv_at hl 2 rfl) ?_
      refine lv_iconst (v := 1) hx hb d_M_letterSize_29 (by decide) ?_
      refine lv_iadd hx hb d_M_letterSize_30 ?_
      refine x_ck heq (fun tt fs ha ht heq => ?_)
      obtain rfl : tt = 8 := by simpa using ht
      refine x_bI (mc := 0) (ms := 0) (st := []) hc hLo heq ⟨by omega, by omega⟩ (fun r9 h9 => x_runV hc (c_M_further hc.g rm_M_further rk_M_further _ _ _ _ h9) md_M_further hR ha rfl wd_897 wd_899 sp_25 hl.1 ml_M_further rfl (Nat.le_of_ble_eq_true rfl) d_M_letterSize_31 ⟨by show 0 + 1 ≤ _; omega, by show 8 + (2 + 11) + (0) ≤ _; omega⟩ ⟨by show 0 + 0 ≤ _; omega, by show 0 + 0 ≤ _; omega⟩) (fun v5 h3 H locs hR hLo heq => ?_)
      refine lv_if_eq (tgt := 41) hx hb d_M_letterSize_34 rfl (fun hq => ?_) (fun hq => ?_)
      · rw [if_pos hq] at heq
        refine lv_iconst (v := 0) hx hb d_M_letterSize_41 (by decide) ?_
        refine W.widen (k := 0) (n := 0) (by omega) (by omega) ?_
        exact k_M_letterSize_b42 hc hrm 0 h3 H locs ls hR hLo (lv_sub hl [] rfl) heq
      · rw [if_neg hq] at heq
        refine lv_iconst (v := 2) hx hb d_M_letterSize_37 (by decide) ?_
        refine lv_goto (tgt := 42) hx hb d_M_letterSize_38 rfl ?_
        refine W.widen (k := 0) (n := 0) (by omega) (by omega) ?_
        exact k_M_letterSize_b42 hc hrm 2 h3 H locs ls hR hLo (lv_sub hl [] rfl) heq
  · rw [if_neg hq] at heq
    refine lv_iconst (v := 1) hx hb d_M_letterSize_14 (by decide) ?_
    exact x_iret hc hR hLo ⟨by omega, by omega⟩ heq d_M_letterSize_15
def rm_M_letterSize : Room := { frames := 1, cells := 0, slots := 0, locals := 21 }
theorem rk_M_letterSize : rm_Ok 0 0 1 21 rm_M_letterSize := ⟨Nat.le_refl _, Nat.le_refl _, Nat.le_refl _, Nat.le_refl _⟩
def f_M_letterAt_b77 (sv0 : Int32) (h0 : Hs_t) : Rs_t := re_I sv0 h0
def f_M_letterAt (t0 : Nat) (x1 : Int32) (x2 : Int32) (h0 : Hs_t) : Rs_t := (fd_A [8] 24 h0 t0).bind fun v1 => (ar_I h0 v1 x1).bind fun v2 => if x2 = 1 then (f_M_letterAt_b77 v2 h0) else (if x2 = 2 then ((fd_A [8] 24 h0 t0).bind fun v7 => (ar_I h0 v7 (x1 + 1)).bind fun v8 => f_M_letterAt_b77 (((v2 &&& 31) <<< (6 &&& 31)) ||| (v8 &&& 63)) h0) else ((fd_A [8] 24 h0 t0).bind fun v3 => (ar_I h0 v3 (x1 + 1)).bind fun v4 => (fd_A [8] 24 h0 t0).bind fun v5 => (ar_I h0 v5 (x1 + 2)).bind fun v6 => f_M_letterAt_b77 ((((v2 &&& 15) <<< (12 &&& 31)) ||| ((v4 &&& 63) <<< (6 &&& 31))) ||| (v6 &&& 63)) h0))
set_option maxRecDepth 100000 in
set_option maxHeartbeats 4000000 in
theorem k_M_letterAt_b77 {p : Program} {l : Launch} {e : Env} {s : State} {m : MethodId} {args : Array Value} {below : List Frame} {meth : Method} {c : Code} {s0 : State} {A0 : Array Value} {G : Gx_t} {r : Outcome × Hs_t} {rm : Room} (hc : Cx_t p s m meth c s0 A0 l G y_M_letterAt b_M_letterAt 4 (some .int) []) (hrm : rm_Ok 0 0 0 0 rm) : ∀ (sv0 : Int32) (h0 : Hs_t) (H : Heap) (locs : List Loc) (ls : Array Slot), Rp_h G s0.heap h0 H → Lo_k s0 locs → lv_has ls 4 [] → f_M_letterAt_b77 sv0 h0 = some r → W p l e rm s m args below meth c H locs 0 0 (xq_MQ G s0 below r s rm.cells rm.slots) (F0 m 77 ls [.int sv0]) := by
  have hx := hc.x
  have hb := hc.b
  obtain ⟨hm1, hm2, hm3, hm4⟩ := id hrm
  intro sv0 h0 H locs ls hR hLo hl heq
  unfold f_M_letterAt_b77 at heq
  exact x_iret hc hR hLo ⟨by omega, by omega⟩ heq d_M_letterAt_77
set_option maxRecDepth 100000 in
set_option maxHeartbeats 4000000 in
theorem c_M_letterAt {l : Launch} {s0 : State} {A0 : Array Value} {G : Gx_t} (hG : G_0 l s0 A0 G) (rm : Room) (hrm : rm_Ok 0 0 0 0 rm) (t0 : Nat) (x1 : Int32) (x2 : Int32) (h0 : Hs_t) (r : Outcome × Hs_t) (heq : f_M_letterAt t0 x1 x2 h0 = some r) : M_X G s0 l y_M_letterAt (.code y_M_letterAt b_M_letterAt 4 (some .int)) rm [.ref t0, .int x1, .int x2] h0 r := by
  refine M_X.of (by decide) hG (fun p e s m below meth c H hc hR => ?_)
  have hx := hc.x
  have hb := hc.b
  obtain ⟨hm1, hm2, hm3, hm4⟩ := id hrm
  have hLo : Lo_k s0 [] := fun _ hq => absurd hq List.not_mem_nil
  have hl := lv_entry ([.ref t0, .int x1, .int x2]) (n := 4) (Nat.le_of_ble_eq_true rfl)
  rw [lg_entry_eq]
  generalize (lg_sl ([.ref t0, .int x1, .int x2]) ++ List.replicate (4 - (lg_sl ([.ref t0, .int x1, .int x2])).length) Slot.unset).toArray = ls at hl ⊢
  have hl : lv_has ls 4 [(0, .ref t0), (1, .int x1), (2, .int x2)] := hl
  generalize hle : ([] : List Loc) = locs at hLo ⊢
  unfold f_M_letterAt at heq
  refine lv_aload_n hx hb d_M_letterAt_0 rfl (lv_at hl 0 rfl) ?_
  refine x_gA hc hR fl_M_59 heq d_M_letterAt_1 (fun v1 heq => ?_)
  refine lv_iload_n hx hb d_M_letterAt_4 rfl (lv_at hl 1 rfl) ?_
  refine x_aI hc hR heq d_M_letterAt_5 (fun v2 heq => ?_)
  refine lv_istore_n (lv' := [(3, .int v2), (0, .ref t0), (1, .int x1), (2, .int x2)]) hx hb d_M_letterAt_6 rfl hl (by decide) rfl (fun ls hl => ?_)
  refine lv_iload_n hx hb d_M_letterAt_7 rfl (lv_at hl 3 rfl) ?_
  refine lv_iconst (v := 1) hx hb d_M_letterAt_8 (by decide) ?_
  refine lv_icmp_ne (tgt := 16) hx hb d_M_letterAt_9 rfl (fun hq => ?_) (fun hq => ?_)
  · rw [if_neg hq] at heq
    refine lv_iload_n hx hb d_M_letterAt_16 rfl (lv_at hl 3 rfl) ?_
    refine lv_iconst (v := 2) hx hb d_M_letterAt_17 (by decide) ?_
    refine lv_icmp_ne (tgt := 43) hx hb d_M_letterAt_18 rfl (fun hq => ?_) (fun hq => ?_)
    · rw [if_neg hq] at heq
      refine lv_iload_n hx hb d_M_letterAt_43 rfl (lv_at hl 0 rfl) ?_
      refine lv_bipush (v := 15) hx hb d_M_letterAt_44 (by decide) ?_
      refine lv_iand hx hb d_M_letterAt_46 ?_
      refine lv_bipush (v := 12) hx hb d_M_letterAt_47 (by decide) ?_
      refine lv_ishl hx hb d_M_letterAt_49 ?_
      refine lv_aload_n hx hb d_M_letterAt_50 rfl (lv_at hl 1 rfl) ?_
      refine x_gA hc hR fl_M_59 heq d_M_letterAt_51 (fun v3 heq => ?_)
      refine lv_iload_n hx hb d_M_letterAt_54 rfl (lv_at hl 2 rfl) ?_
      refine lv_iconst (v := 1) hx hb d_M_letterAt_55 (by decide) ?_
      refine lv_iadd hx hb d_M_letterAt_56 ?_
      refine x_aI hc hR heq d_M_letterAt_57 (fun v4 heq => ?_)
      refine lv_bipush (v := 63) hx hb d_M_letterAt_58 (by decide) ?_
      refine lv_iand hx hb d_M_letterAt_60 ?_
      refine lv_bipush (v := 6) hx hb d_M_letterAt_61 (by decide) ?_
      refine lv_ishl hx hb d_M_letterAt_63 ?_
      refine lv_ior hx hb d_M_letterAt_64 ?_
      refine lv_aload_n hx hb d_M_letterAt_65 rfl (lv_at hl 1 rfl) ?_
      refine x_gA hc hR fl_M_59 heq d_M_letterAt_66 (fun v5 heq => ?_)
      refine lv_iload_n hx hb d_M_letterAt_69 rfl (lv_at hl 2 rfl) ?_
      refine lv_iconst (v := 2) hx hb d_M_letterAt_70 (by decide) ?_
      refine lv_iadd hx hb d_M_letterAt_71 ?_
      refine x_aI hc hR heq d_M_letterAt_72 (fun v6 heq => ?_)
      refine lv_bipush (v := 63) hx hb d_M_letterAt_73 (by decide) ?_
      refine lv_iand hx hb d_M_letterAt_75 ?_
      refine lv_ior hx hb d_M_letterAt_76 ?_
      refine W.widen (k := 0) (n := 0) (by omega) (by omega) ?_
      exact k_M_letterAt_b77 hc hrm ((((v2 &&& 15) <<< (12 &&& 31)) ||| ((v4 &&& 63) <<< (6 &&& 31))) ||| (v6 &&& 63)) h0 H locs ls hR hLo (lv_sub hl [] rfl) heq
    · rw [if_pos hq] at heq
      refine lv_iload_n hx hb d_M_letterAt_21 rfl (lv_at hl 0 rfl) ?_
      refine lv_bipush (v := 31) hx hb d_M_letterAt_22 (by decide) ?_
      refine lv_iand hx hb d_M_letterAt_24 ?_
      refine lv_bipush (v := 6) hx hb d_M_letterAt_25 (by decide) ?_
      refine lv_ishl hx hb d_M_letterAt_27 ?_
      refine lv_aload_n hx hb d_M_letterAt_28 rfl (lv_at hl 1 rfl) ?_
      refine x_gA hc hR fl_M_59 heq d_M_letterAt_29 (fun v7 heq => ?_)
      refine lv_iload_n hx hb d_M_letterAt_32 rfl (lv_at hl 2 rfl) ?_
      refine lv_iconst (v := 1) hx hb d_M_letterAt_33 (by decide) ?_
      refine lv_iadd hx hb d_M_letterAt_34 ?_
      refine x_aI hc hR heq d_M_letterAt_35 (fun v8 heq => ?_)
      refine lv_bipush (v := 63) hx hb d_M_letterAt_36 (by decide) ?_
      refine lv_iand hx hb d_M_letterAt_38 ?_
      refine lv_ior hx hb d_M_letterAt_39 ?_
      refine lv_goto (tgt := 77) hx hb d_M_letterAt_40 rfl ?_
      refine W.widen (k := 0) (n := 0) (by omega) (by omega) ?_
      exact k_M_letterAt_b77 hc hrm (((v2 &&& 31) <<< (6 &&& 31)) ||| (v8 &&& 63)) h0 H locs ls hR hLo (lv_sub hl [] rfl) heq
  · rw [if_pos hq] at heq
    refine lv_iload_n hx hb d_M_letterAt_12 rfl (lv_at hl 0 rfl) ?_
    refine lv_goto (tgt := 77) hx hb d_M_letterAt_13 rfl ?_
    refine W.widen (k := 0) (n := 0) (by omega) (by omega) ?_
    exact k_M_letterAt_b77 hc hrm v2 h0 H locs ls hR hLo (lv_sub hl [] rfl) heq
def rm_M_letterAt : Room := { frames := 0, cells := 0, slots := 0, locals := 0 }
theorem rk_M_letterAt : rm_Ok 0 0 0 0 rm_M_letterAt := ⟨Nat.le_refl _, Nat.le_refl _, Nat.le_refl _, Nat.le_refl _⟩
def f_M_text_b127 : Nat → Nat → Int32 → Hs_t → Rs_t
  | 0, _, _, _ => none
  | n + 1, t0, x2, h0 => (fd_I [8] 25 h0 t0).bind fun v12 => if v12 ≤ x2 then ((fd_I [8] 27 h0 t0).bind fun v13 => re_I v13 h0) else ((ck_T [8] h0 t0).bind fun _ => bd_I (f_M_letterSize t0 x2 h0) (fun v14 h9 => (fd_A [8] 26 h9 t0).bind fun v15 => (fd_I [8] 27 h9 t0).bind fun v16 => (ck_T [8] h9 t0).bind fun _ => bd_I (f_M_letterAt t0 x2 v14 h9) (fun v17 h10 => (as_I h10 v15 v16 v17).bind fun h11 => (fd_I [8] 27 h11 t0).bind fun v18 => (pt_V [8] 27 h11 t0 (.int (v18 + 1))).bind fun h12 => (f_M_text_b127 n) t0 (x2 + v14) h12)))
def f_M_text_b109 (t0 : Nat) (x3 : Int32) (h0 : Hs_t) : Rs_t := if x3 = 0 then ((pt_V [8] 0 h0 t0 (.int 3)).bind fun h8 => re_I 0 h8) else ((pt_V [8] 27 h0 t0 (.int 0)).bind fun h7 => f_M_text_b127 fu_N t0 2 h7)
def f_M_text_b84 : Nat → Nat → Int32 → Int32 → Hs_t → Rs_t
  | 0, _, _, _, _ => none
  | n + 1, t0, x2, x3, h0 => (fd_I [8] 25 h0 t0).bind fun v10 => if v10 ≤ x2 then (f_M_text_b109 t0 x3 h0) else (if x3 ≤ 0 then (f_M_text_b109 t0 x3 h0) else ((ck_T [8] h0 t0).bind fun _ => bd_I (f_M_letterSize t0 x2 h0) (fun v11 h6 => (f_M_text_b84 n) t0 (x2 + v11) v11 h6)))
def f_M_text_b68 (t0 : Nat) (sv0 : Int32) (sv1 : Nat) (h0 : Hs_t) : Rs_t := (pt_V [8] 0 h0 sv1 (.int sv0)).bind fun h5 => (fd_I [8] 0 h5 t0).bind fun v9 => if v9 ≤ 0 then (f_M_text_b84 fu_N t0 2 1 h5) else (re_I 0 h5)
def f_M_text_b22 (t0 : Nat) (sv0 : Int32) (sv1 : Nat) (h0 : Hs_t) : Rs_t := (pt_V [8] 0 h0 sv1 (.int sv0)).bind fun h3 => (fd_I [8] 0 h3 t0).bind fun v3 => if v3 ≤ 0 then ((fd_A [8] 24 h3 t0).bind fun v4 => (ar_I h3 v4 0).bind fun v5 => (fd_A [8] 24 h3 t0).bind fun v6 => (ar_I h3 v6 1).bind fun v7 => if ((256 * v5) + v7) ≤ 118 then ((ck_T [8] h3 t0).bind fun _ => bd_I (f_M_fill t0 ((256 * v5) + v7) h3) (fun v8 h4 => f_M_text_b68 t0 v8 t0 h4)) else (f_M_text_b68 t0 3 t0 h3)) else (re_I 0 h3)
def f_M_text (t0 : Nat) (h0 : Hs_t) : Rs_t := (pt_V [8] 25 h0 t0 (.int 0)).bind fun h1 => (fd_I [8] 21 h1 t0).bind fun v1 => if v1 = 0 then ((ck_T [8] h1 t0).bind fun _ => bd_I (f_M_fill t0 2 h1) (fun v2 h2 => f_M_text_b22 t0 v2 t0 h2)) else (f_M_text_b22 t0 1 t0 h1)
set_option maxRecDepth 100000 in
set_option maxHeartbeats 4000000 in
theorem k_M_text_b127 {p : Program} {l : Launch} {e : Env} {s : State} {m : MethodId} {args : Array Value} {below : List Frame} {meth : Method} {c : Code} {s0 : State} {A0 : Array Value} {G : Gx_t} {r : Outcome × Hs_t} {rm : Room} (hc : Cx_t p s m meth c s0 A0 l G y_M_text b_M_text 5 (some .int) []) (hrm : rm_Ok 0 0 6 138 rm) : ∀ (n : Nat) (t0 : Nat) (x2 : Int32) (h0 : Hs_t) (H : Heap) (locs : List Loc) (ls : Array Slot), Rp_h G s0.heap h0 H → Lo_k s0 locs → lv_has ls 5 [(0, .ref t0), (2, .int x2)] → f_M_text_b127 n t0 x2 h0 = some r → W p l e rm s m args below meth c H locs 0 0 (xq_MQ G s0 below r s rm.cells rm.slots) (F0 m 127 ls []) := by
  have hx := hc.x
  have hb := hc.b
  obtain ⟨hm1, hm2, hm3, hm4⟩ := id hrm
  intro n
  induction n with
  | zero =>
    intro t0 x2 h0 H locs ls hR hLo hl heq
    unfold f_M_text_b127 at heq
    cases heq
  | succ n hr127 =>
    intro t0 x2 h0 H locs ls hR hLo hl heq
    unfold f_M_text_b127 at heq
    refine lv_iload_n hx hb d_M_text_127 rfl (lv_at hl 1 rfl) ?_
    refine lv_aload_n hx hb d_M_text_128 rfl (lv_at hl 0 rfl) ?_
    refine x_gI hc hR fl_M_123 heq d_M_text_129 (fun v12 heq => ?_)
    refine lv_icmp_ge (tgt := 176) hx hb d_M_text_132 rfl (fun hq => ?_) (fun hq => ?_)
    · rw [if_pos hq] at heq
      refine lv_aload_n hx hb d_M_text_176 rfl (lv_at hl 0 rfl) ?_
      refine x_gI hc hR fl_M_141 heq d_M_text_177 (fun v13 heq => ?_)
      exact x_iret hc hR hLo ⟨by omega, by omega⟩ heq d_M_text_180
    · rw [if_neg hq] at heq
      refine lv_aload_n hx hb d_M_text_135 rfl (lv_at hl 0 rfl) ?_
      refine lv_iload_n hx hb d_M_text_136 rfl (lv_at hl 1 rfl) ?_
      refine x_ck heq (fun tt fs ha ht heq => ?_)
      obtain rfl : tt = 8 := by simpa using ht
      refine x_bI (mc := 0) (ms := 0) (st := []) hc hLo heq ⟨by omega, by omega⟩ (fun r9 h9 => x_runV hc (c_M_letterSize hc.g rm_M_letterSize rk_M_letterSize _ _ _ _ h9) md_M_letterSize hR ha rfl wd_893 wd_895 sp_24 hl.1 ml_M_letterSize rfl (Nat.le_of_ble_eq_true rfl) d_M_text_137 ⟨by show 1 + 1 ≤ _; omega, by show 8 + (3 + 11) + (21) ≤ _; omega⟩ ⟨by show 0 + 0 ≤ _; omega, by show 0 + 0 ≤ _; omega⟩) (fun v14 h9 H locs hR hLo heq => ?_)
      refine lv_istore (lv' := [(4, .int v14), (0, .ref t0), (2, .int x2)]) hx hb d_M_text_140 hl (by decide) rfl (fun ls hl => ?_)
      refine lv_aload_n hx hb d_M_text_142 rfl (lv_at hl 1 rfl) ?_
      refine x_gA hc hR fl_M_62 heq d_M_text_143 (fun v15 heq => ?_)
      refine lv_aload_n hx hb d_M_text_146 rfl (lv_at hl 1 rfl) ?_
      refine x_gI hc hR fl_M_141 heq d_M_text_147 (fun v16 heq => ?_)
      refine lv_aload_n hx hb d_M_text_150 rfl (lv_at hl 1 rfl) ?_
      refine lv_iload_n hx hb d_M_text_151 rfl (lv_at hl 2 rfl) ?_
      refine lv_iload hx hb d_M_text_152 (lv_at hl 0 rfl) ?_
      refine x_ck heq (fun tt fs ha ht heq => ?_)
      obtain rfl : tt = 8 := by simpa using ht
      refine x_bI (mc := 0) (ms := 0) (st := [.int v16, .ref v15]) hc hLo heq ⟨by omega, by omega⟩ (fun r9 h9 => x_runV hc (c_M_letterAt hc.g rm_M_letterAt rk_M_letterAt _ _ _ _ _ h9) md_M_letterAt hR ha rfl wd_901 wd_903 sp_26 hl.1 ml_M_letterAt rfl (Nat.le_of_ble_eq_true rfl) d_M_text_154 ⟨by show 0 + 1 ≤ _; omega, by show 8 + (4 + 11) + (0) ≤ _; omega⟩ ⟨by show 0 + 0 ≤ _; omega, by show 0 + 0 ≤ _; omega⟩) (fun v17 h10 H locs hR hLo heq => ?_)
      refine x_sI hc hR hLo heq d_M_text_157 (fun h11 H locs hR hLo heq => ?_)
      refine lv_aload_n hx hb d_M_text_158 rfl (lv_at hl 1 rfl) ?_
      refine lv_dup hx hb d_M_text_159 rfl ?_
      refine x_gI hc hR fl_M_141 heq d_M_text_160 (fun v18 heq => ?_)
      refine lv_iconst (v := 1) hx hb d_M_text_163 (by decide) ?_
      refine lv_iadd hx hb d_M_text_164 ?_
      refine x_pV hc hR hLo fl_M_141 (Or.inl rfl) rfl rfl heq d_M_text_165 (fun h12 H locs hR hLo heq => ?_)
      refine lv_iload_n hx hb d_M_text_168 rfl (lv_at hl 2 rfl) ?_
      refine lv_iload hx hb d_M_text_169 (lv_at hl 0 rfl) ?_
      refine lv_iadd hx hb d_M_text_171 ?_
      refine lv_istore_n (lv' := [(2, .int (x2 + v14)), (4, .int v14), (0, .ref t0)]) hx hb d_M_text_172 rfl hl (by decide) rfl (fun ls hl => ?_)
      refine lv_goto (tgt := 127) hx hb d_M_text_173 rfl ?_
      refine W.widen (k := 0) (n := 0) (by omega) (by omega) ?_
      exact hr127 t0 (x2 + v14) h12 H locs ls hR hLo (lv_sub hl [2, 0] rfl) heq
set_option maxRecDepth 100000 in
set_option maxHeartbeats 4000000 in
theorem k_M_text_b109 {p : Program} {l : Launch} {e : Env} {s : State} {m : MethodId} {args : Array Value} {below : List Frame} {meth : Method} {c : Code} {s0 : State} {A0 : Array Value} {G : Gx_t} {r : Outcome × Hs_t} {rm : Room} (hc : Cx_t p s m meth c s0 A0 l G y_M_text b_M_text 5 (some .int) []) (hrm : rm_Ok 0 0 6 138 rm) : ∀ (t0 : Nat) (x3 : Int32) (h0 : Hs_t) (H : Heap) (locs : List Loc) (ls : Array Slot), Rp_h G s0.heap h0 H → Lo_k s0 locs → lv_has ls 5 [(0, .ref t0), (3, .int x3)] → f_M_text_b109 t0 x3 h0 = some r → W p l e rm s m args below meth c H locs 0 0 (xq_MQ G s0 below r s rm.cells rm.slots) (F0 m 109 ls []) := by
  have hx := hc.x
  have hb := hc.b
  obtain ⟨hm1, hm2, hm3, hm4⟩ := id hrm
  intro t0 x3 h0 H locs ls hR hLo hl heq
  unfold f_M_text_b109 at heq
  refine lv_iload_n hx hb d_M_text_109 rfl (lv_at hl 1 rfl) ?_
  refine lv_if_ne (tgt := 120) hx hb d_M_text_110 rfl (fun hq => ?_) (fun hq => ?_)
  · rw [if_neg hq] at heq
    refine lv_aload_n hx hb d_M_text_120 rfl (lv_at hl 0 rfl) ?_
    refine lv_iconst (v := 0) hx hb d_M_text_121 (by decide) ?_
    refine x_pV hc hR hLo fl_M_141 (Or.inl rfl) rfl rfl heq d_M_text_122 (fun h7 H locs hR hLo heq => ?_)
    refine lv_iconst (v := 2) hx hb d_M_text_125 (by decide) ?_
    refine lv_istore_n (lv' := [(2, .int 2), (0, .ref t0), (3, .int x3)]) hx hb d_M_text_126 rfl hl (by decide) rfl (fun ls hl => ?_)
    refine W.widen (k := 0) (n := 0) (by omega) (by omega) ?_
    exact k_M_text_b127 hc hrm fu_N t0 2 h7 H locs ls hR hLo (lv_sub hl [1, 0] rfl) heq
  · rw [if_pos hq] at heq
    refine lv_aload_n hx hb d_M_text_113 rfl (lv_at hl 0 rfl) ?_
    refine lv_iconst (v := 3) hx hb d_M_text_114 (by decide) ?_
    refine x_pV hc hR hLo fl_M_65 (Or.inl rfl) rfl rfl heq d_M_text_115 (fun h8 H locs hR hLo heq => ?_)
    refine lv_iconst (v := 0) hx hb d_M_text_118 (by decide) ?_
    exact x_iret hc hR hLo ⟨by omega, by omega⟩ heq d_M_text_119
set_option maxRecDepth 100000 in
set_option maxHeartbeats 4000000 in
theorem k_M_text_b84 {p : Program} {l : Launch} {e : Env} {s : State} {m : MethodId} {args : Array Value} {below : List Frame} {meth : Method} {c : Code} {s0 : State} {A0 : Array Value} {G : Gx_t} {r : Outcome × Hs_t} {rm : Room} (hc : Cx_t p s m meth c s0 A0 l G y_M_text b_M_text 5 (some .int) []) (hrm : rm_Ok 0 0 6 138 rm) : ∀ (n : Nat) (t0 : Nat) (x2 : Int32) (x3 : Int32) (h0 : Hs_t) (H : Heap) (locs : List Loc) (ls : Array Slot), Rp_h G s0.heap h0 H → Lo_k s0 locs → lv_has ls 5 [(0, .ref t0), (2, .int x2), (3, .int x3)] → f_M_text_b84 n t0 x2 x3 h0 = some r → W p l e rm s m args below meth c H locs 0 0 (xq_MQ G s0 below r s rm.cells rm.slots) (F0 m 84 ls []) := by
  have hx := hc.x
  have hb := hc.b
  obtain ⟨hm1, hm2, hm3, hm4⟩ := id hrm
  intro n
  induction n with
  | zero =>
    intro t0 x2 x3 h0 H locs ls hR hLo hl heq
    unfold f_M_text_b84 at heq
    cases heq
  | succ n hr84 =>
    intro t0 x2 x3 h0 H locs ls hR hLo hl heq
    unfold f_M_text_b84 at heq
    refine lv_iload_n hx hb d_M_text_84 rfl (lv_at hl 1 rfl) ?_
    refine lv_aload_n hx hb d_M_text_85 rfl (lv_at hl 0 rfl) ?_
    refine x_gI hc hR fl_M_123 heq d_M_text_86 (fun v10 heq => ?_)
    refine lv_icmp_ge (tgt := 109) hx hb d_M_text_89 rfl (fun hq => ?_) (fun hq => ?_)
    · rw [if_pos hq] at heq
      refine W.widen (k := 0) (n := 0) (by omega) (by omega) ?_
      exact k_M_text_b109 hc hrm t0 x3 h0 H locs ls hR hLo (lv_sub hl [0, 2] rfl) heq
    · rw [if_neg hq] at heq
      refine lv_iload_n hx hb d_M_text_92 rfl (lv_at hl 2 rfl) ?_
      refine lv_if_le (tgt := 109) hx hb d_M_text_93 rfl (fun hq => ?_) (fun hq => ?_)
      · rw [if_pos hq] at heq
        refine W.widen (k := 0) (n := 0) (by omega) (by omega) ?_
        exact k_M_text_b109 hc hrm t0 x3 h0 H locs ls hR hLo (lv_sub hl [0, 2] rfl) heq
      · rw [if_neg hq] at heq
        refine lv_aload_n hx hb d_M_text_96 rfl (lv_at hl 0 rfl) ?_
        refine lv_iload_n hx hb d_M_text_97 rfl (lv_at hl 1 rfl) ?_
        refine x_ck heq (fun tt fs ha ht heq => ?_)
        obtain rfl : tt = 8 := by simpa using ht
        refine x_bI (mc := 0) (ms := 0) (st := []) hc hLo heq ⟨by omega, by omega⟩ (fun r9 h9 => x_runV hc (c_M_letterSize hc.g rm_M_letterSize rk_M_letterSize _ _ _ _ h9) md_M_letterSize hR ha rfl wd_893 wd_895 sp_24 hl.1 ml_M_letterSize rfl (Nat.le_of_ble_eq_true rfl) d_M_text_98 ⟨by show 1 + 1 ≤ _; omega, by show 8 + (3 + 11) + (21) ≤ _; omega⟩ ⟨by show 0 + 0 ≤ _; omega, by show 0 + 0 ≤ _; omega⟩) (fun v11 h6 H locs hR hLo heq => ?_)
        refine lv_istore_n (lv' := [(3, .int v11), (0, .ref t0), (2, .int x2)]) hx hb d_M_text_101 rfl hl (by decide) rfl (fun ls hl => ?_)
        refine lv_iload_n hx hb d_M_text_102 rfl (lv_at hl 2 rfl) ?_
        refine lv_iload_n hx hb d_M_text_103 rfl (lv_at hl 0 rfl) ?_
        refine lv_iadd hx hb d_M_text_104 ?_
        refine lv_istore_n (lv' := [(2, .int (x2 + v11)), (3, .int v11), (0, .ref t0)]) hx hb d_M_text_105 rfl hl (by decide) rfl (fun ls hl => ?_)
        refine lv_goto (tgt := 84) hx hb d_M_text_106 rfl ?_
        refine W.widen (k := 0) (n := 0) (by omega) (by omega) ?_
        exact hr84 t0 (x2 + v11) v11 h6 H locs ls hR hLo (lv_sub hl [2, 0, 1] rfl) heq
set_option maxRecDepth 100000 in
set_option maxHeartbeats 4000000 in
theorem k_M_text_b68 {p : Program} {l : Launch} {e : Env} {s : State} {m : MethodId} {args : Array Value} {below : List Frame} {meth : Method} {c : Code} {s0 : State} {A0 : Array Value} {G : Gx_t} {r : Outcome × Hs_t} {rm : Room} (hc : Cx_t p s m meth c s0 A0 l G y_M_text b_M_text 5 (some .int) []) (hrm : rm_Ok 0 0 6 138 rm) : ∀ (t0 : Nat) (sv0 : Int32) (sv1 : Nat) (h0 : Hs_t) (H : Heap) (locs : List Loc) (ls : Array Slot), Rp_h G s0.heap h0 H → Lo_k s0 locs → lv_has ls 5 [(0, .ref t0)] → f_M_text_b68 t0 sv0 sv1 h0 = some r → W p l e rm s m args below meth c H locs 0 0 (xq_MQ G s0 below r s rm.cells rm.slots) (F0 m 68 ls [.int sv0, .ref sv1]) := by
  have hx := hc.x
  have hb := hc.b
  obtain ⟨hm1, hm2, hm3, hm4⟩ := id hrm
  intro t0 sv0 sv1 h0 H locs ls hR hLo hl heq
  unfold f_M_text_b68 at heq
  refine x_pV hc hR hLo fl_M_65 (Or.inl rfl) rfl rfl heq d_M_text_68 (fun h5 H locs hR hLo heq => ?_)
  refine lv_aload_n hx hb d_M_text_71 rfl (lv_at hl 0 rfl) ?_
  refine x_gI hc hR fl_M_65 heq d_M_text_72 (fun v9 heq => ?_)
  refine lv_if_le (tgt := 80) hx hb d_M_text_75 rfl (fun hq => ?_) (fun hq => ?_)
  · rw [if_pos hq] at heq
    refine lv_iconst (v := 2) hx hb d_M_text_80 (by decide) ?_
    refine lv_istore_n (lv' := [(2, .int 2), (0, .ref t0)]) hx hb d_M_text_81 rfl hl (by decide) rfl (fun ls hl => ?_)
    refine lv_iconst (v := 1) hx hb d_M_text_82 (by decide) ?_
    refine lv_istore_n (lv' := [(3, .int 1), (2, .int 2), (0, .ref t0)]) hx hb d_M_text_83 rfl hl (by decide) rfl (fun ls hl => ?_)
    refine W.widen (k := 0) (n := 0) (by omega) (by omega) ?_
    exact k_M_text_b84 hc hrm fu_N t0 2 1 h5 H locs ls hR hLo (lv_sub hl [2, 1, 0] rfl) heq
  · rw [if_neg hq] at heq
    refine lv_iconst (v := 0) hx hb d_M_text_78 (by decide) ?_
    exact x_iret hc hR hLo ⟨by omega, by omega⟩ heq d_M_text_79
set_option maxRecDepth 100000 in
set_option maxHeartbeats 4000000 in
theorem k_M_text_b22 {p : Program} {l : Launch} {e : Env} {s : State} {m : MethodId} {args : Array Value} {below : List Frame} {meth : Method} {c : Code} {s0 : State} {A0 : Array Value} {G : Gx_t} {r : Outcome × Hs_t} {rm : Room} (hc : Cx_t p s m meth c s0 A0 l G y_M_text b_M_text 5 (some .int) []) (hrm : rm_Ok 0 0 6 138 rm) : ∀ (t0 : Nat) (sv0 : Int32) (sv1 : Nat) (h0 : Hs_t) (H : Heap) (locs : List Loc) (ls : Array Slot), Rp_h G s0.heap h0 H → Lo_k s0 locs → lv_has ls 5 [(0, .ref t0)] → f_M_text_b22 t0 sv0 sv1 h0 = some r → W p l e rm s m args below meth c H locs 0 0 (xq_MQ G s0 below r s rm.cells rm.slots) (F0 m 22 ls [.int sv0, .ref sv1]) := by
  have hx := hc.x
  have hb := hc.b
  obtain ⟨hm1, hm2, hm3, hm4⟩ := id hrm
  intro t0 sv0 sv1 h0 H locs ls hR hLo hl heq
  unfold f_M_text_b22 at heq
  refine x_pV hc hR hLo fl_M_65 (Or.inl rfl) rfl rfl heq d_M_text_22 (fun h3 H locs hR hLo heq => ?_)
  refine lv_aload_n hx hb d_M_text_25 rfl (lv_at hl 0 rfl) ?_
  refine x_gI hc hR fl_M_65 heq d_M_text_26 (fun v3 heq => ?_)
  refine lv_if_le (tgt := 34) hx hb d_M_text_29 rfl (fun hq => ?_) (fun hq => ?_)
  · rw [if_pos hq] at heq
    refine lv_sipush (v := 256) hx hb d_M_text_34 (by decide) ?_
    refine lv_aload_n hx hb d_M_text_37 rfl (lv_at hl 0 rfl) ?_
    refine x_gA hc hR fl_M_59 heq d_M_text_38 (fun v4 heq => ?_)
    refine lv_iconst (v := 0) hx hb d_M_text_41 (by decide) ?_
    refine x_aI hc hR heq d_M_text_42 (fun v5 heq => ?_)
    refine lv_imul hx hb d_M_text_43 ?_
    refine lv_aload_n hx hb d_M_text_44 rfl (lv_at hl 0 rfl) ?_
    refine x_gA hc hR fl_M_59 heq d_M_text_45 (fun v6 heq => ?_)
    refine lv_iconst (v := 1) hx hb d_M_text_48 (by decide) ?_
    refine x_aI hc hR heq d_M_text_49 (fun v7 heq => ?_)
    refine lv_iadd hx hb d_M_text_50 ?_
    refine lv_istore_n (lv' := [(1, .int ((256 * v5) + v7)), (0, .ref t0)]) hx hb d_M_text_51 rfl hl (by decide) rfl (fun ls hl => ?_)
    refine lv_aload_n hx hb d_M_text_52 rfl (lv_at hl 1 rfl) ?_
    refine lv_iload_n hx hb d_M_text_53 rfl (lv_at hl 0 rfl) ?_
    refine lv_bipush (v := 118) hx hb d_M_text_54 (by decide) ?_
    refine lv_icmp_le (tgt := 63) hx hb d_M_text_56 rfl (fun hq => ?_) (fun hq => ?_)
    · rw [if_pos hq] at heq
      refine lv_aload_n hx hb d_M_text_63 rfl (lv_at hl 1 rfl) ?_
      refine lv_iload_n hx hb d_M_text_64 rfl (lv_at hl 0 rfl) ?_
      refine x_ck heq (fun tt fs ha ht heq => ?_)
      obtain rfl : tt = 8 := by simpa using ht
      refine x_bI (mc := 0) (ms := 0) (st := [.ref t0]) hc hLo heq ⟨by omega, by omega⟩ (fun r9 h9 => x_runV hc (c_M_fill hc.g rm_M_fill rk_M_fill _ _ _ _ h9) md_M_fill hR ha rfl wd_877 wd_879 sp_23 hl.1 ml_M_fill rfl (Nat.le_of_ble_eq_true rfl) d_M_text_65 ⟨by show 5 + 1 ≤ _; omega, by show 8 + (3 + 11) + (116) ≤ _; omega⟩ ⟨by show 0 + 0 ≤ _; omega, by show 0 + 0 ≤ _; omega⟩) (fun v8 h4 H locs hR hLo heq => ?_)
      refine W.widen (k := 0) (n := 0) (by omega) (by omega) ?_
      exact k_M_text_b68 hc hrm t0 v8 t0 h4 H locs ls hR hLo (lv_sub hl [1] rfl) heq
    · rw [if_neg hq] at heq
      refine lv_iconst (v := 3) hx hb d_M_text_59 (by decide) ?_
      refine lv_goto (tgt := 68) hx hb d_M_text_60 rfl ?_
      refine W.widen (k := 0) (n := 0) (by omega) (by omega) ?_
      exact k_M_text_b68 hc hrm t0 3 t0 h3 H locs ls hR hLo (lv_sub hl [1] rfl) heq
  · rw [if_neg hq] at heq
    refine lv_iconst (v := 0) hx hb d_M_text_32 (by decide) ?_
    exact x_iret hc hR hLo ⟨by omega, by omega⟩ heq d_M_text_33
set_option maxRecDepth 100000 in
set_option maxHeartbeats 4000000 in
theorem c_M_text {l : Launch} {s0 : State} {A0 : Array Value} {G : Gx_t} (hG : G_0 l s0 A0 G) (rm : Room) (hrm : rm_Ok 0 0 6 138 rm) (t0 : Nat) (h0 : Hs_t) (r : Outcome × Hs_t) (heq : f_M_text t0 h0 = some r) : M_X G s0 l y_M_text (.code y_M_text b_M_text 5 (some .int)) rm [.ref t0] h0 r := by
  refine M_X.of (by decide) hG (fun p e s m below meth c H hc hR => ?_)
  have hx := hc.x
  have hb := hc.b
  obtain ⟨hm1, hm2, hm3, hm4⟩ := id hrm
  have hLo : Lo_k s0 [] := fun _ hq => absurd hq List.not_mem_nil
  have hl := lv_entry ([.ref t0]) (n := 5) (Nat.le_of_ble_eq_true rfl)
  rw [lg_entry_eq]
  generalize (lg_sl ([.ref t0]) ++ List.replicate (5 - (lg_sl ([.ref t0])).length) Slot.unset).toArray = ls at hl ⊢
  have hl : lv_has ls 5 [(0, .ref t0)] := hl
  generalize hle : ([] : List Loc) = locs at hLo ⊢
  unfold f_M_text at heq
  refine lv_aload_n hx hb d_M_text_0 rfl (lv_at hl 0 rfl) ?_
  refine lv_iconst (v := 0) hx hb d_M_text_1 (by decide) ?_
  refine x_pV hc hR hLo fl_M_123 (Or.inl rfl) rfl rfl heq d_M_text_2 (fun h1 H locs hR hLo heq => ?_)
  refine lv_aload_n hx hb d_M_text_5 rfl (lv_at hl 0 rfl) ?_
  refine lv_aload_n hx hb d_M_text_6 rfl (lv_at hl 0 rfl) ?_
  refine x_gI hc hR fl_M_75 heq d_M_text_7 (fun v1 heq => ?_)
  refine lv_if_eq (tgt := 17) hx hb d_M_text_10 rfl (fun hq => ?_) (fun hq => ?_)
  · rw [if_pos hq] at heq
    refine lv_aload_n hx hb d_M_text_17 rfl (lv_at hl 0 rfl) ?_
    refine lv_iconst (v := 2) hx hb d_M_text_18 (by decide) ?_
    refine x_ck heq (fun tt fs ha ht heq => ?_)
    obtain rfl : tt = 8 := by simpa using ht
    refine x_bI (mc := 0) (ms := 0) (st := [.ref t0]) hc hLo heq ⟨by omega, by omega⟩ (fun r9 h9 => x_runV hc (c_M_fill hc.g rm_M_fill rk_M_fill _ _ _ _ h9) md_M_fill hR ha rfl wd_877 wd_879 sp_23 hl.1 ml_M_fill rfl (Nat.le_of_ble_eq_true rfl) d_M_text_19 ⟨by show 5 + 1 ≤ _; omega, by show 8 + (3 + 11) + (116) ≤ _; omega⟩ ⟨by show 0 + 0 ≤ _; omega, by show 0 + 0 ≤ _; omega⟩) (fun v2 h2 H locs hR hLo heq => ?_)
    refine W.widen (k := 0) (n := 0) (by omega) (by omega) ?_
    exact k_M_text_b22 hc hrm t0 v2 t0 h2 H locs ls hR hLo (lv_sub hl [0] rfl) heq
  · rw [if_neg hq] at heq
    refine lv_iconst (v := 1) hx hb d_M_text_13 (by decide) ?_
    refine lv_goto (tgt := 22) hx hb d_M_text_14 rfl ?_
    refine W.widen (k := 0) (n := 0) (by omega) (by omega) ?_
    exact k_M_text_b22 hc hrm t0 1 t0 h1 H locs ls hR hLo (lv_sub hl [0] rfl) heq
def rm_M_text : Room := { frames := 6, cells := 0, slots := 0, locals := 138 }
theorem rk_M_text : rm_Ok 0 0 6 138 rm_M_text := ⟨Nat.le_refl _, Nat.le_refl _, Nat.le_refl _, Nat.le_refl _⟩
