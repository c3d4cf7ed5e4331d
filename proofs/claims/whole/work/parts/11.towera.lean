theorem d_T_init_0 : decode b_T_init 0 = .ok (.aload_n 0, 1) := by decide +kernel
theorem d_T_init_1 : decode b_T_init 1 = .ok (.invokespecial 3, 3) := by decide +kernel
theorem d_T_init_4 : decode b_T_init 4 = .ok (.aload_n 0, 1) := by decide +kernel
theorem d_T_init_5 : decode b_T_init 5 = .ok (.new 9, 3) := by decide +kernel
theorem d_T_init_8 : decode b_T_init 8 = .ok (.dup, 1) := by decide +kernel
theorem d_T_init_9 : decode b_T_init 9 = .ok (.invokespecial 11, 3) := by decide +kernel
theorem d_T_init_12 : decode b_T_init 12 = .ok (.putfield 12, 3) := by decide +kernel
theorem d_T_init_15 : decode b_T_init 15 = .ok (.aload_n 0, 1) := by decide +kernel
theorem d_T_init_16 : decode b_T_init 16 = .ok (.iconst 5, 1) := by decide +kernel
theorem d_T_init_17 : decode b_T_init 17 = .ok (.anewarray 16, 3) := by decide +kernel
theorem d_T_init_20 : decode b_T_init 20 = .ok (.putfield 18, 3) := by decide +kernel
theorem d_T_init_23 : decode b_T_init 23 = .ok (.aload_n 0, 1) := by decide +kernel
theorem d_T_init_24 : decode b_T_init 24 = .ok (.bipush 120, 2) := by decide +kernel
theorem d_T_init_26 : decode b_T_init 26 = .ok (.newarray .int, 2) := by decide +kernel
theorem d_T_init_28 : decode b_T_init 28 = .ok (.putfield 22, 3) := by decide +kernel
theorem d_T_init_31 : decode b_T_init 31 = .ok (.aload_n 0, 1) := by decide +kernel
theorem d_T_init_32 : decode b_T_init 32 = .ok (.new 26, 3) := by decide +kernel
theorem d_T_init_35 : decode b_T_init 35 = .ok (.dup, 1) := by decide +kernel
theorem d_T_init_36 : decode b_T_init 36 = .ok (.sipush 160, 3) := by decide +kernel
theorem d_T_init_39 : decode b_T_init 39 = .ok (.invokespecial 28, 3) := by decide +kernel
theorem d_T_init_42 : decode b_T_init 42 = .ok (.putfield 31, 3) := by decide +kernel
theorem d_T_init_45 : decode b_T_init 45 = .ok (.aload_n 0, 1) := by decide +kernel
theorem d_T_init_46 : decode b_T_init 46 = .ok (.new 26, 3) := by decide +kernel
theorem d_T_init_49 : decode b_T_init 49 = .ok (.dup, 1) := by decide +kernel
theorem d_T_init_50 : decode b_T_init 50 = .ok (.bipush 118, 2) := by decide +kernel
theorem d_T_init_52 : decode b_T_init 52 = .ok (.invokespecial 28, 3) := by decide +kernel
theorem d_T_init_55 : decode b_T_init 55 = .ok (.putfield 35, 3) := by decide +kernel
theorem d_T_init_58 : decode b_T_init 58 = .ok (.aload_n 0, 1) := by decide +kernel
theorem d_T_init_59 : decode b_T_init 59 = .ok (.aload_n 0, 1) := by decide +kernel
theorem d_T_init_60 : decode b_T_init 60 = .ok (.getfield 12, 3) := by decide +kernel
theorem d_T_init_63 : decode b_T_init 63 = .ok (.putfield 38, 3) := by decide +kernel
theorem d_T_init_66 : decode b_T_init 66 = .ok (.return_, 1) := by decide +kernel
theorem d_T_feed_0 : decode b_T_feed 0 = .ok (.iload_n 2, 1) := by decide +kernel
theorem d_T_feed_1 : decode b_T_feed 1 = .ok (.iconst 1, 1) := by decide +kernel
theorem d_T_feed_2 : decode b_T_feed 2 = .ok (.if_icmp .lt 8, 3) := by decide +kernel
theorem d_T_feed_5 : decode b_T_feed 5 = .ok (.iload_n 2, 1) := by decide +kernel
theorem d_T_feed_6 : decode b_T_feed 6 = .ok (.iconst 4, 1) := by decide +kernel
theorem d_T_feed_7 : decode b_T_feed 7 = .ok (.if_icmp .le 11, 3) := by decide +kernel
theorem d_T_feed_10 : decode b_T_feed 10 = .ok (.new 42, 3) := by decide +kernel
theorem d_T_feed_13 : decode b_T_feed 13 = .ok (.dup, 1) := by decide +kernel
theorem d_T_feed_14 : decode b_T_feed 14 = .ok (.invokespecial 44, 3) := by decide +kernel
theorem d_T_feed_17 : decode b_T_feed 17 = .ok (.athrow, 1) := by decide +kernel
theorem d_T_feed_18 : decode b_T_feed 18 = .ok (.aload_n 0, 1) := by decide +kernel
theorem d_T_feed_19 : decode b_T_feed 19 = .ok (.getfield 12, 3) := by decide +kernel
theorem d_T_feed_22 : decode b_T_feed 22 = .ok (.iload_n 2, 1) := by decide +kernel
theorem d_T_feed_23 : decode b_T_feed 23 = .ok (.invokevirtual 45, 3) := by decide +kernel
theorem d_T_feed_26 : decode b_T_feed 26 = .ok (.ifCond .ne 11, 3) := by decide +kernel
theorem d_T_feed_29 : decode b_T_feed 29 = .ok (.new 49, 3) := by decide +kernel
theorem d_T_feed_32 : decode b_T_feed 32 = .ok (.dup, 1) := by decide +kernel
theorem d_T_feed_33 : decode b_T_feed 33 = .ok (.invokespecial 51, 3) := by decide +kernel
theorem d_T_feed_36 : decode b_T_feed 36 = .ok (.athrow, 1) := by decide +kernel
theorem d_T_feed_37 : decode b_T_feed 37 = .ok (.iload_n 2, 1) := by decide +kernel
theorem d_T_feed_38 : decode b_T_feed 38 = .ok (.iconst 1, 1) := by decide +kernel
theorem d_T_feed_39 : decode b_T_feed 39 = .ok (.isub, 1) := by decide +kernel
theorem d_T_feed_40 : decode b_T_feed 40 = .ok (.istore_n 3, 1) := by decide +kernel
theorem d_T_feed_41 : decode b_T_feed 41 = .ok (.iload_n 3, 1) := by decide +kernel
theorem d_T_feed_42 : decode b_T_feed 42 = .ok (.ifCond .lt 26, 3) := by decide +kernel
theorem d_T_feed_45 : decode b_T_feed 45 = .ok (.aload_n 0, 1) := by decide +kernel
theorem d_T_feed_46 : decode b_T_feed 46 = .ok (.getfield 12, 3) := by decide +kernel
theorem d_T_feed_49 : decode b_T_feed 49 = .ok (.iload_n 1, 1) := by decide +kernel
theorem d_T_feed_50 : decode b_T_feed 50 = .ok (.bipush 8, 2) := by decide +kernel
theorem d_T_feed_52 : decode b_T_feed 52 = .ok (.iload_n 3, 1) := by decide +kernel
theorem d_T_feed_53 : decode b_T_feed 53 = .ok (.imul, 1) := by decide +kernel
theorem d_T_feed_54 : decode b_T_feed 54 = .ok (.iushr, 1) := by decide +kernel
theorem d_T_feed_55 : decode b_T_feed 55 = .ok (.sipush 255, 3) := by decide +kernel
theorem d_T_feed_58 : decode b_T_feed 58 = .ok (.iand, 1) := by decide +kernel
theorem d_T_feed_59 : decode b_T_feed 59 = .ok (.invokevirtual 52, 3) := by decide +kernel
theorem d_T_feed_62 : decode b_T_feed 62 = .ok (.iinc 3 (-1), 3) := by decide +kernel
theorem d_T_feed_65 : decode b_T_feed 65 = .ok (.goto (-24), 3) := by decide +kernel
theorem d_T_feed_68 : decode b_T_feed 68 = .ok (.aload_n 0, 1) := by decide +kernel
theorem d_T_feed_69 : decode b_T_feed 69 = .ok (.getfield 12, 3) := by decide +kernel
theorem d_T_feed_72 : decode b_T_feed 72 = .ok (.getfield 55, 3) := by decide +kernel
theorem d_T_feed_75 : decode b_T_feed 75 = .ok (.ireturn, 1) := by decide +kernel
theorem d_T_portion_0 : decode b_T_portion 0 = .ok (.aload_n 0, 1) := by decide +kernel
theorem d_T_portion_1 : decode b_T_portion 1 = .ok (.getfield 12, 3) := by decide +kernel
theorem d_T_portion_4 : decode b_T_portion 4 = .ok (.invokevirtual 59, 3) := by decide +kernel
theorem d_T_portion_7 : decode b_T_portion 7 = .ok (.return_, 1) := by decide +kernel
theorem d_T_breakAt_0 : decode b_T_breakAt 0 = .ok (.iload_n 1, 1) := by decide +kernel
theorem d_T_breakAt_1 : decode b_T_breakAt 1 = .ok (.iconst (-1), 1) := by decide +kernel
theorem d_T_breakAt_2 : decode b_T_breakAt 2 = .ok (.if_icmp .ne 12, 3) := by decide +kernel
theorem d_T_breakAt_5 : decode b_T_breakAt 5 = .ok (.aload_n 0, 1) := by decide +kernel
theorem d_T_breakAt_6 : decode b_T_breakAt 6 = .ok (.getfield 12, 3) := by decide +kernel
theorem d_T_breakAt_9 : decode b_T_breakAt 9 = .ok (.invokevirtual 62, 3) := by decide +kernel
theorem d_T_breakAt_12 : decode b_T_breakAt 12 = .ok (.iconst 1, 1) := by decide +kernel
theorem d_T_breakAt_13 : decode b_T_breakAt 13 = .ok (.ireturn, 1) := by decide +kernel
theorem d_T_breakAt_14 : decode b_T_breakAt 14 = .ok (.aload_n 0, 1) := by decide +kernel
theorem d_T_breakAt_15 : decode b_T_breakAt 15 = .ok (.getfield 12, 3) := by decide +kernel
theorem d_T_breakAt_18 : decode b_T_breakAt 18 = .ok (.iload_n 1, 1) := by decide +kernel
theorem d_T_breakAt_19 : decode b_T_breakAt 19 = .ok (.invokevirtual 65, 3) := by decide +kernel
theorem d_T_breakAt_22 : decode b_T_breakAt 22 = .ok (.ireturn, 1) := by decide +kernel
theorem d_T_isSizeOfKind_0 : decode b_T_isSizeOfKind 0 = .ok (.iload_n 0, 1) := by decide +kernel
theorem d_T_isSizeOfKind_1 : decode b_T_isSizeOfKind 1 = .ok (.tableswitch 113 1 5 #[35, 52, 69, 86, 103], 35) := by decide +kernel
theorem d_T_isSizeOfKind_36 : decode b_T_isSizeOfKind 36 = .ok (.iload_n 1, 1) := by decide +kernel
theorem d_T_isSizeOfKind_37 : decode b_T_isSizeOfKind 37 = .ok (.iconst 1, 1) := by decide +kernel
theorem d_T_isSizeOfKind_38 : decode b_T_isSizeOfKind 38 = .ok (.if_icmp .lt 13, 3) := by decide +kernel
theorem d_T_isSizeOfKind_41 : decode b_T_isSizeOfKind 41 = .ok (.iload_n 1, 1) := by decide +kernel
theorem d_T_isSizeOfKind_42 : decode b_T_isSizeOfKind 42 = .ok (.bipush 16, 2) := by decide +kernel
theorem d_T_isSizeOfKind_44 : decode b_T_isSizeOfKind 44 = .ok (.if_icmp .gt 7, 3) := by decide +kernel
theorem d_T_isSizeOfKind_47 : decode b_T_isSizeOfKind 47 = .ok (.iconst 1, 1) := by decide +kernel
theorem d_T_isSizeOfKind_48 : decode b_T_isSizeOfKind 48 = .ok (.goto 4, 3) := by decide +kernel
theorem d_T_isSizeOfKind_51 : decode b_T_isSizeOfKind 51 = .ok (.iconst 0, 1) := by decide +kernel
theorem d_T_isSizeOfKind_52 : decode b_T_isSizeOfKind 52 = .ok (.ireturn, 1) := by decide +kernel
theorem d_T_isSizeOfKind_53 : decode b_T_isSizeOfKind 53 = .ok (.iload_n 1, 1) := by decide +kernel
theorem d_T_isSizeOfKind_54 : decode b_T_isSizeOfKind 54 = .ok (.iconst 1, 1) := by decide +kernel
theorem d_T_isSizeOfKind_55 : decode b_T_isSizeOfKind 55 = .ok (.if_icmp .lt 13, 3) := by decide +kernel
theorem d_T_isSizeOfKind_58 : decode b_T_isSizeOfKind 58 = .ok (.iload_n 1, 1) := by decide +kernel
theorem d_T_isSizeOfKind_59 : decode b_T_isSizeOfKind 59 = .ok (.bipush 8, 2) := by decide +kernel
theorem d_T_isSizeOfKind_61 : decode b_T_isSizeOfKind 61 = .ok (.if_icmp .gt 7, 3) := by decide +kernel
theorem d_T_isSizeOfKind_64 : decode b_T_isSizeOfKind 64 = .ok (.iconst 1, 1) := by decide +kernel
theorem d_T_isSizeOfKind_65 : decode b_T_isSizeOfKind 65 = .ok (.goto 4, 3) := by decide +kernel
theorem d_T_isSizeOfKind_68 : decode b_T_isSizeOfKind 68 = .ok (.iconst 0, 1) := by decide +kernel
theorem d_T_isSizeOfKind_69 : decode b_T_isSizeOfKind 69 = .ok (.ireturn, 1) := by decide +kernel
theorem d_T_isSizeOfKind_70 : decode b_T_isSizeOfKind 70 = .ok (.iload_n 1, 1) := by decide +kernel
theorem d_T_isSizeOfKind_71 : decode b_T_isSizeOfKind 71 = .ok (.ifCond .lt 14, 3) := by decide +kernel
theorem d_T_isSizeOfKind_74 : decode b_T_isSizeOfKind 74 = .ok (.iload_n 1, 1) := by decide +kernel
theorem d_T_isSizeOfKind_75 : decode b_T_isSizeOfKind 75 = .ok (.sipush 200, 3) := by decide +kernel
theorem d_T_isSizeOfKind_78 : decode b_T_isSizeOfKind 78 = .ok (.if_icmp .gt 7, 3) := by decide +kernel
theorem d_T_isSizeOfKind_81 : decode b_T_isSizeOfKind 81 = .ok (.iconst 1, 1) := by decide +kernel
theorem d_T_isSizeOfKind_82 : decode b_T_isSizeOfKind 82 = .ok (.goto 4, 3) := by decide +kernel
theorem d_T_isSizeOfKind_85 : decode b_T_isSizeOfKind 85 = .ok (.iconst 0, 1) := by decide +kernel
theorem d_T_isSizeOfKind_86 : decode b_T_isSizeOfKind 86 = .ok (.ireturn, 1) := by decide +kernel
theorem d_T_isSizeOfKind_87 : decode b_T_isSizeOfKind 87 = .ok (.iload_n 1, 1) := by decide +kernel
theorem d_T_isSizeOfKind_88 : decode b_T_isSizeOfKind 88 = .ok (.ifCond .lt 14, 3) := by decide +kernel
theorem d_T_isSizeOfKind_91 : decode b_T_isSizeOfKind 91 = .ok (.iload_n 1, 1) := by decide +kernel
theorem d_T_isSizeOfKind_92 : decode b_T_isSizeOfKind 92 = .ok (.sipush 255, 3) := by decide +kernel
theorem d_T_isSizeOfKind_95 : decode b_T_isSizeOfKind 95 = .ok (.if_icmp .gt 7, 3) := by decide +kernel
theorem d_T_isSizeOfKind_98 : decode b_T_isSizeOfKind 98 = .ok (.iconst 1, 1) := by decide +kernel
theorem d_T_isSizeOfKind_99 : decode b_T_isSizeOfKind 99 = .ok (.goto 4, 3) := by decide +kernel
theorem d_T_isSizeOfKind_102 : decode b_T_isSizeOfKind 102 = .ok (.iconst 0, 1) := by decide +kernel
theorem d_T_isSizeOfKind_103 : decode b_T_isSizeOfKind 103 = .ok (.ireturn, 1) := by decide +kernel
theorem d_T_isSizeOfKind_104 : decode b_T_isSizeOfKind 104 = .ok (.iload_n 1, 1) := by decide +kernel
theorem d_T_isSizeOfKind_105 : decode b_T_isSizeOfKind 105 = .ok (.ifCond .ne 7, 3) := by decide +kernel
theorem d_T_isSizeOfKind_108 : decode b_T_isSizeOfKind 108 = .ok (.iconst 1, 1) := by decide +kernel
theorem d_T_isSizeOfKind_109 : decode b_T_isSizeOfKind 109 = .ok (.goto 4, 3) := by decide +kernel
theorem d_T_isSizeOfKind_112 : decode b_T_isSizeOfKind 112 = .ok (.iconst 0, 1) := by decide +kernel
theorem d_T_isSizeOfKind_113 : decode b_T_isSizeOfKind 113 = .ok (.ireturn, 1) := by decide +kernel
theorem d_T_isSizeOfKind_114 : decode b_T_isSizeOfKind 114 = .ok (.iconst 0, 1) := by decide +kernel
theorem d_T_isSizeOfKind_115 : decode b_T_isSizeOfKind 115 = .ok (.ireturn, 1) := by decide +kernel
theorem d_T_layerOver_0 : decode b_T_layerOver 0 = .ok (.iload_n 1, 1) := by decide +kernel
theorem d_T_layerOver_1 : decode b_T_layerOver 1 = .ok (.tableswitch 71 1 4 #[31, 41, 51, 61], 31) := by decide +kernel
theorem d_T_layerOver_32 : decode b_T_layerOver 32 = .ok (.new 157, 3) := by decide +kernel
theorem d_T_layerOver_35 : decode b_T_layerOver 35 = .ok (.dup, 1) := by decide +kernel
theorem d_T_layerOver_36 : decode b_T_layerOver 36 = .ok (.aload_n 0, 1) := by decide +kernel
theorem d_T_layerOver_37 : decode b_T_layerOver 37 = .ok (.iload_n 2, 1) := by decide +kernel
theorem d_T_layerOver_38 : decode b_T_layerOver 38 = .ok (.invokespecial 159, 3) := by decide +kernel
theorem d_T_layerOver_41 : decode b_T_layerOver 41 = .ok (.areturn, 1) := by decide +kernel
theorem d_T_layerOver_42 : decode b_T_layerOver 42 = .ok (.new 140, 3) := by decide +kernel
theorem d_T_layerOver_45 : decode b_T_layerOver 45 = .ok (.dup, 1) := by decide +kernel
theorem d_T_layerOver_46 : decode b_T_layerOver 46 = .ok (.aload_n 0, 1) := by decide +kernel
theorem d_T_layerOver_47 : decode b_T_layerOver 47 = .ok (.iload_n 2, 1) := by decide +kernel
theorem d_T_layerOver_48 : decode b_T_layerOver 48 = .ok (.invokespecial 162, 3) := by decide +kernel
theorem d_T_layerOver_51 : decode b_T_layerOver 51 = .ok (.areturn, 1) := by decide +kernel
theorem d_T_layerOver_52 : decode b_T_layerOver 52 = .ok (.new 163, 3) := by decide +kernel
theorem d_T_layerOver_55 : decode b_T_layerOver 55 = .ok (.dup, 1) := by decide +kernel
theorem d_T_layerOver_56 : decode b_T_layerOver 56 = .ok (.aload_n 0, 1) := by decide +kernel
theorem d_T_layerOver_57 : decode b_T_layerOver 57 = .ok (.iload_n 2, 1) := by decide +kernel
theorem d_T_layerOver_58 : decode b_T_layerOver 58 = .ok (.invokespecial 165, 3) := by decide +kernel
theorem d_T_layerOver_61 : decode b_T_layerOver 61 = .ok (.areturn, 1) := by decide +kernel
theorem d_T_layerOver_62 : decode b_T_layerOver 62 = .ok (.new 166, 3) := by decide +kernel
theorem d_T_layerOver_65 : decode b_T_layerOver 65 = .ok (.dup, 1) := by decide +kernel
theorem d_T_layerOver_66 : decode b_T_layerOver 66 = .ok (.aload_n 0, 1) := by decide +kernel
theorem d_T_layerOver_67 : decode b_T_layerOver 67 = .ok (.iload_n 2, 1) := by decide +kernel
theorem d_T_layerOver_68 : decode b_T_layerOver 68 = .ok (.invokespecial 168, 3) := by decide +kernel
theorem d_T_layerOver_71 : decode b_T_layerOver 71 = .ok (.areturn, 1) := by decide +kernel
theorem d_T_layerOver_72 : decode b_T_layerOver 72 = .ok (.new 169, 3) := by decide +kernel
theorem d_T_layerOver_75 : decode b_T_layerOver 75 = .ok (.dup, 1) := by decide +kernel
theorem d_T_layerOver_76 : decode b_T_layerOver 76 = .ok (.aload_n 0, 1) := by decide +kernel
theorem d_T_layerOver_77 : decode b_T_layerOver 77 = .ok (.invokespecial 171, 3) := by decide +kernel
theorem d_T_layerOver_80 : decode b_T_layerOver 80 = .ok (.areturn, 1) := by decide +kernel
theorem d_T_push_0 : decode b_T_push 0 = .ok (.iload_n 1, 1) := by decide +kernel
theorem d_T_push_1 : decode b_T_push 1 = .ok (.iload_n 2, 1) := by decide +kernel
theorem d_T_push_2 : decode b_T_push 2 = .ok (.invokestatic 68, 3) := by decide +kernel
theorem d_T_push_5 : decode b_T_push 5 = .ok (.ifCond .ne 11, 3) := by decide +kernel
theorem d_T_push_8 : decode b_T_push 8 = .ok (.new 42, 3) := by decide +kernel
theorem d_T_push_11 : decode b_T_push 11 = .ok (.dup, 1) := by decide +kernel
theorem d_T_push_12 : decode b_T_push 12 = .ok (.invokespecial 44, 3) := by decide +kernel
theorem d_T_push_15 : decode b_T_push 15 = .ok (.athrow, 1) := by decide +kernel
theorem d_T_push_16 : decode b_T_push 16 = .ok (.aload_n 0, 1) := by decide +kernel
theorem d_T_push_17 : decode b_T_push 17 = .ok (.getfield 72, 3) := by decide +kernel
theorem d_T_push_20 : decode b_T_push 20 = .ok (.ifCond .ne 11, 3) := by decide +kernel
theorem d_T_push_23 : decode b_T_push 23 = .ok (.aload_n 0, 1) := by decide +kernel
theorem d_T_push_24 : decode b_T_push 24 = .ok (.getfield 76, 3) := by decide +kernel
theorem d_T_push_27 : decode b_T_push 27 = .ok (.iconst 5, 1) := by decide +kernel
theorem d_T_push_28 : decode b_T_push 28 = .ok (.if_icmp .lt 11, 3) := by decide +kernel
theorem d_T_push_31 : decode b_T_push 31 = .ok (.new 49, 3) := by decide +kernel
theorem d_T_push_34 : decode b_T_push 34 = .ok (.dup, 1) := by decide +kernel
theorem d_T_push_35 : decode b_T_push 35 = .ok (.invokespecial 51, 3) := by decide +kernel
theorem d_T_push_38 : decode b_T_push 38 = .ok (.athrow, 1) := by decide +kernel
theorem d_T_push_39 : decode b_T_push 39 = .ok (.aload_n 0, 1) := by decide +kernel
theorem d_T_push_40 : decode b_T_push 40 = .ok (.aload_n 0, 1) := by decide +kernel
theorem d_T_push_41 : decode b_T_push 41 = .ok (.getfield 38, 3) := by decide +kernel
theorem d_T_push_44 : decode b_T_push 44 = .ok (.iload_n 1, 1) := by decide +kernel
theorem d_T_push_45 : decode b_T_push 45 = .ok (.iload_n 2, 1) := by decide +kernel
theorem d_T_push_46 : decode b_T_push 46 = .ok (.invokestatic 79, 3) := by decide +kernel
theorem d_T_push_49 : decode b_T_push 49 = .ok (.putfield 38, 3) := by decide +kernel
theorem d_T_push_52 : decode b_T_push 52 = .ok (.aload_n 0, 1) := by decide +kernel
theorem d_T_push_53 : decode b_T_push 53 = .ok (.getfield 18, 3) := by decide +kernel
theorem d_T_push_56 : decode b_T_push 56 = .ok (.aload_n 0, 1) := by decide +kernel
theorem d_T_push_57 : decode b_T_push 57 = .ok (.getfield 76, 3) := by decide +kernel
theorem d_T_push_60 : decode b_T_push 60 = .ok (.aload_n 0, 1) := by decide +kernel
theorem d_T_push_61 : decode b_T_push 61 = .ok (.getfield 38, 3) := by decide +kernel
theorem d_T_push_64 : decode b_T_push 64 = .ok (.aastore, 1) := by decide +kernel
theorem d_T_push_65 : decode b_T_push 65 = .ok (.aload_n 0, 1) := by decide +kernel
theorem d_T_push_66 : decode b_T_push 66 = .ok (.dup, 1) := by decide +kernel
theorem d_T_push_67 : decode b_T_push 67 = .ok (.getfield 76, 3) := by decide +kernel
theorem d_T_push_70 : decode b_T_push 70 = .ok (.iconst 1, 1) := by decide +kernel
theorem d_T_push_71 : decode b_T_push 71 = .ok (.iadd, 1) := by decide +kernel
theorem d_T_push_72 : decode b_T_push 72 = .ok (.putfield 76, 3) := by decide +kernel
theorem d_T_push_75 : decode b_T_push 75 = .ok (.aload_n 0, 1) := by decide +kernel
theorem d_T_push_76 : decode b_T_push 76 = .ok (.getfield 76, 3) := by decide +kernel
theorem d_T_push_79 : decode b_T_push 79 = .ok (.iconst 1, 1) := by decide +kernel
theorem d_T_push_80 : decode b_T_push 80 = .ok (.isub, 1) := by decide +kernel
theorem d_T_push_81 : decode b_T_push 81 = .ok (.ireturn, 1) := by decide +kernel
theorem d_T_refuseWhenClosed_0 : decode b_T_refuseWhenClosed 0 = .ok (.aload_n 0, 1) := by decide +kernel
theorem d_T_refuseWhenClosed_1 : decode b_T_refuseWhenClosed 1 = .ok (.getfield 72, 3) := by decide +kernel
theorem d_T_refuseWhenClosed_4 : decode b_T_refuseWhenClosed 4 = .ok (.ifCond .eq 11, 3) := by decide +kernel
theorem d_T_refuseWhenClosed_7 : decode b_T_refuseWhenClosed 7 = .ok (.new 49, 3) := by decide +kernel
theorem d_T_refuseWhenClosed_10 : decode b_T_refuseWhenClosed 10 = .ok (.dup, 1) := by decide +kernel
theorem d_T_refuseWhenClosed_11 : decode b_T_refuseWhenClosed 11 = .ok (.invokespecial 51, 3) := by decide +kernel
theorem d_T_refuseWhenClosed_14 : decode b_T_refuseWhenClosed 14 = .ok (.athrow, 1) := by decide +kernel
theorem d_T_refuseWhenClosed_15 : decode b_T_refuseWhenClosed 15 = .ok (.return_, 1) := by decide +kernel
theorem d_T_startReading_0 : decode b_T_startReading 0 = .ok (.aload_n 0, 1) := by decide +kernel
theorem d_T_startReading_1 : decode b_T_startReading 1 = .ok (.getfield 31, 3) := by decide +kernel
theorem d_T_startReading_4 : decode b_T_startReading 4 = .ok (.invokevirtual 174, 3) := by decide +kernel
theorem d_T_startReading_7 : decode b_T_startReading 7 = .ok (.aload_n 0, 1) := by decide +kernel
theorem d_T_startReading_8 : decode b_T_startReading 8 = .ok (.invokevirtual 118, 3) := by decide +kernel
theorem d_T_startReading_11 : decode b_T_startReading 11 = .ok (.return_, 1) := by decide +kernel
theorem d_T_request_0 : decode b_T_request 0 = .ok (.aload_n 0, 1) := by decide +kernel
theorem d_T_request_1 : decode b_T_request 1 = .ok (.getfield 38, 3) := by decide +kernel
theorem d_T_request_4 : decode b_T_request 4 = .ok (.iload_n 1, 1) := by decide +kernel
theorem d_T_request_5 : decode b_T_request 5 = .ok (.aload_n 0, 1) := by decide +kernel
theorem d_T_request_6 : decode b_T_request 6 = .ok (.getfield 22, 3) := by decide +kernel
theorem d_T_request_9 : decode b_T_request 9 = .ok (.iconst 0, 1) := by decide +kernel
theorem d_T_request_10 : decode b_T_request 10 = .ok (.invokevirtual 177, 3) := by decide +kernel
theorem d_T_request_13 : decode b_T_request 13 = .ok (.istore_n 2, 1) := by decide +kernel
theorem d_T_request_14 : decode b_T_request 14 = .ok (.iload_n 2, 1) := by decide +kernel
theorem d_T_request_15 : decode b_T_request 15 = .ok (.iconst (-1), 1) := by decide +kernel
theorem d_T_request_16 : decode b_T_request 16 = .ok (.if_icmp .eq 14, 3) := by decide +kernel
theorem d_T_request_19 : decode b_T_request 19 = .ok (.iload_n 2, 1) := by decide +kernel
theorem d_T_request_20 : decode b_T_request 20 = .ok (.ifCond .eq 10, 3) := by decide +kernel
theorem d_T_request_23 : decode b_T_request 23 = .ok (.aload_n 0, 1) := by decide +kernel
theorem d_T_request_24 : decode b_T_request 24 = .ok (.getfield 112, 3) := by decide +kernel
theorem d_T_request_27 : decode b_T_request 27 = .ok (.ifCond .ne 5, 3) := by decide +kernel
theorem d_T_request_30 : decode b_T_request 30 = .ok (.iload_n 2, 1) := by decide +kernel
theorem d_T_request_31 : decode b_T_request 31 = .ok (.ireturn, 1) := by decide +kernel
theorem d_T_request_32 : decode b_T_request 32 = .ok (.aload_n 0, 1) := by decide +kernel
theorem d_T_request_33 : decode b_T_request 33 = .ok (.iconst 0, 1) := by decide +kernel
theorem d_T_request_34 : decode b_T_request 34 = .ok (.putfield 112, 3) := by decide +kernel
theorem d_T_request_37 : decode b_T_request 37 = .ok (.aload_n 0, 1) := by decide +kernel
theorem d_T_request_38 : decode b_T_request 38 = .ok (.getfield 22, 3) := by decide +kernel
theorem d_T_request_41 : decode b_T_request 41 = .ok (.iconst 0, 1) := by decide +kernel
theorem d_T_request_42 : decode b_T_request 42 = .ok (.iaload, 1) := by decide +kernel
theorem d_T_request_43 : decode b_T_request 43 = .ok (.bipush 10, 2) := by decide +kernel
theorem d_T_request_45 : decode b_T_request 45 = .ok (.if_icmp .eq 5, 3) := by decide +kernel
theorem d_T_request_48 : decode b_T_request 48 = .ok (.iload_n 2, 1) := by decide +kernel
theorem d_T_request_49 : decode b_T_request 49 = .ok (.ireturn, 1) := by decide +kernel
theorem d_T_request_50 : decode b_T_request 50 = .ok (.iload_n 2, 1) := by decide +kernel
theorem d_T_request_51 : decode b_T_request 51 = .ok (.iconst 1, 1) := by decide +kernel
theorem d_T_request_52 : decode b_T_request 52 = .ok (.if_icmp .ne 17, 3) := by decide +kernel
theorem d_T_request_55 : decode b_T_request 55 = .ok (.aload_n 0, 1) := by decide +kernel
theorem d_T_request_56 : decode b_T_request 56 = .ok (.getfield 38, 3) := by decide +kernel
theorem d_T_request_59 : decode b_T_request 59 = .ok (.iload_n 1, 1) := by decide +kernel
theorem d_T_request_60 : decode b_T_request 60 = .ok (.aload_n 0, 1) := by decide +kernel
theorem d_T_request_61 : decode b_T_request 61 = .ok (.getfield 22, 3) := by decide +kernel
theorem d_T_request_64 : decode b_T_request 64 = .ok (.iconst 0, 1) := by decide +kernel
theorem d_T_request_65 : decode b_T_request 65 = .ok (.invokevirtual 177, 3) := by decide +kernel
theorem d_T_request_68 : decode b_T_request 68 = .ok (.ireturn, 1) := by decide +kernel
theorem d_T_request_69 : decode b_T_request 69 = .ok (.aload_n 0, 1) := by decide +kernel
theorem d_T_request_70 : decode b_T_request 70 = .ok (.getfield 22, 3) := by decide +kernel
theorem d_T_request_73 : decode b_T_request 73 = .ok (.iconst 1, 1) := by decide +kernel
theorem d_T_request_74 : decode b_T_request 74 = .ok (.aload_n 0, 1) := by decide +kernel
theorem d_T_request_75 : decode b_T_request 75 = .ok (.getfield 22, 3) := by decide +kernel
theorem d_T_request_78 : decode b_T_request 78 = .ok (.iconst 0, 1) := by decide +kernel
theorem d_T_request_79 : decode b_T_request 79 = .ok (.iload_n 2, 1) := by decide +kernel
theorem d_T_request_80 : decode b_T_request 80 = .ok (.iconst 1, 1) := by decide +kernel
theorem d_T_request_81 : decode b_T_request 81 = .ok (.isub, 1) := by decide +kernel
theorem d_T_request_82 : decode b_T_request 82 = .ok (.invokestatic 181, 3) := by decide +kernel
theorem d_T_request_85 : decode b_T_request 85 = .ok (.iload_n 2, 1) := by decide +kernel
theorem d_T_request_86 : decode b_T_request 86 = .ok (.iconst 1, 1) := by decide +kernel
theorem d_T_request_87 : decode b_T_request 87 = .ok (.isub, 1) := by decide +kernel
theorem d_T_request_88 : decode b_T_request 88 = .ok (.ireturn, 1) := by decide +kernel
theorem d_T_read_0 : decode b_T_read 0 = .ok (.aload_n 0, 1) := by decide +kernel
theorem d_T_read_1 : decode b_T_read 1 = .ok (.invokevirtual 83, 3) := by decide +kernel
theorem d_T_read_4 : decode b_T_read 4 = .ok (.aload_n 0, 1) := by decide +kernel
theorem d_T_read_5 : decode b_T_read 5 = .ok (.iconst 1, 1) := by decide +kernel
theorem d_T_read_6 : decode b_T_read 6 = .ok (.invokevirtual 86, 3) := by decide +kernel
theorem d_T_read_9 : decode b_T_read 9 = .ok (.istore_n 1, 1) := by decide +kernel
theorem d_T_read_10 : decode b_T_read 10 = .ok (.iload_n 1, 1) := by decide +kernel
theorem d_T_read_11 : decode b_T_read 11 = .ok (.iconst (-1), 1) := by decide +kernel
theorem d_T_read_12 : decode b_T_read 12 = .ok (.if_icmp .ne 11, 3) := by decide +kernel
theorem d_T_read_15 : decode b_T_read 15 = .ok (.new 49, 3) := by decide +kernel
theorem d_T_read_18 : decode b_T_read 18 = .ok (.dup, 1) := by decide +kernel
theorem d_T_read_19 : decode b_T_read 19 = .ok (.invokespecial 51, 3) := by decide +kernel
theorem d_T_read_22 : decode b_T_read 22 = .ok (.athrow, 1) := by decide +kernel
theorem d_T_read_23 : decode b_T_read 23 = .ok (.aload_n 0, 1) := by decide +kernel
theorem d_T_read_24 : decode b_T_read 24 = .ok (.getfield 31, 3) := by decide +kernel
theorem d_T_read_27 : decode b_T_read 27 = .ok (.aload_n 0, 1) := by decide +kernel
theorem d_T_read_28 : decode b_T_read 28 = .ok (.getfield 22, 3) := by decide +kernel
theorem d_T_read_31 : decode b_T_read 31 = .ok (.iload_n 1, 1) := by decide +kernel
theorem d_T_read_32 : decode b_T_read 32 = .ok (.invokevirtual 90, 3) := by decide +kernel
theorem d_T_read_35 : decode b_T_read 35 = .ok (.aload_n 0, 1) := by decide +kernel
theorem d_T_read_36 : decode b_T_read 36 = .ok (.getfield 31, 3) := by decide +kernel
theorem d_T_read_39 : decode b_T_read 39 = .ok (.iconst 0, 1) := by decide +kernel
theorem d_T_read_40 : decode b_T_read 40 = .ok (.invokevirtual 94, 3) := by decide +kernel
theorem d_T_read_43 : decode b_T_read 43 = .ok (.ireturn, 1) := by decide +kernel
theorem d_T_some_0 : decode b_T_some 0 = .ok (.aload_n 0, 1) := by decide +kernel
theorem d_T_some_1 : decode b_T_some 1 = .ok (.invokevirtual 83, 3) := by decide +kernel
theorem d_T_some_4 : decode b_T_some 4 = .ok (.iload_n 1, 1) := by decide +kernel
theorem d_T_some_5 : decode b_T_some 5 = .ok (.iconst 1, 1) := by decide +kernel
theorem d_T_some_6 : decode b_T_some 6 = .ok (.if_icmp .lt 9, 3) := by decide +kernel
theorem d_T_some_9 : decode b_T_some 9 = .ok (.iload_n 1, 1) := by decide +kernel
theorem d_T_some_10 : decode b_T_some 10 = .ok (.bipush 60, 2) := by decide +kernel
theorem d_T_some_12 : decode b_T_some 12 = .ok (.if_icmp .le 11, 3) := by decide +kernel
theorem d_T_some_15 : decode b_T_some 15 = .ok (.new 42, 3) := by decide +kernel
theorem d_T_some_18 : decode b_T_some 18 = .ok (.dup, 1) := by decide +kernel
theorem d_T_some_19 : decode b_T_some 19 = .ok (.invokespecial 44, 3) := by decide +kernel
theorem d_T_some_22 : decode b_T_some 22 = .ok (.athrow, 1) := by decide +kernel
theorem d_T_some_23 : decode b_T_some 23 = .ok (.aload_n 0, 1) := by decide +kernel
theorem d_T_some_24 : decode b_T_some 24 = .ok (.iload_n 1, 1) := by decide +kernel
theorem d_T_some_25 : decode b_T_some 25 = .ok (.invokevirtual 86, 3) := by decide +kernel
theorem d_T_some_28 : decode b_T_some 28 = .ok (.istore_n 2, 1) := by decide +kernel
theorem d_T_some_29 : decode b_T_some 29 = .ok (.iload_n 2, 1) := by decide +kernel
theorem d_T_some_30 : decode b_T_some 30 = .ok (.iconst (-1), 1) := by decide +kernel
theorem d_T_some_31 : decode b_T_some 31 = .ok (.if_icmp .ne 11, 3) := by decide +kernel
theorem d_T_some_34 : decode b_T_some 34 = .ok (.new 49, 3) := by decide +kernel
theorem d_T_some_37 : decode b_T_some 37 = .ok (.dup, 1) := by decide +kernel
theorem d_T_some_38 : decode b_T_some 38 = .ok (.invokespecial 51, 3) := by decide +kernel
theorem d_T_some_41 : decode b_T_some 41 = .ok (.athrow, 1) := by decide +kernel
theorem d_T_some_42 : decode b_T_some 42 = .ok (.aload_n 0, 1) := by decide +kernel
theorem d_T_some_43 : decode b_T_some 43 = .ok (.getfield 31, 3) := by decide +kernel
theorem d_T_some_46 : decode b_T_some 46 = .ok (.aload_n 0, 1) := by decide +kernel
theorem d_T_some_47 : decode b_T_some 47 = .ok (.getfield 22, 3) := by decide +kernel
theorem d_T_some_50 : decode b_T_some 50 = .ok (.iload_n 2, 1) := by decide +kernel
theorem d_T_some_51 : decode b_T_some 51 = .ok (.invokevirtual 90, 3) := by decide +kernel
theorem d_T_some_54 : decode b_T_some 54 = .ok (.iload_n 2, 1) := by decide +kernel
theorem d_T_some_55 : decode b_T_some 55 = .ok (.ifCond .ne 7, 3) := by decide +kernel
theorem d_T_some_58 : decode b_T_some 58 = .ok (.iconst (-1), 1) := by decide +kernel
theorem d_T_some_59 : decode b_T_some 59 = .ok (.goto 4, 3) := by decide +kernel
theorem d_T_some_62 : decode b_T_some 62 = .ok (.iload_n 2, 1) := by decide +kernel
theorem d_T_some_63 : decode b_T_some 63 = .ok (.ireturn, 1) := by decide +kernel
theorem d_T_readAll_0 : decode b_T_readAll 0 = .ok (.iconst 0, 1) := by decide +kernel
theorem d_T_readAll_1 : decode b_T_readAll 1 = .ok (.istore_n 2, 1) := by decide +kernel
theorem d_T_readAll_2 : decode b_T_readAll 2 = .ok (.iconst 0, 1) := by decide +kernel
theorem d_T_readAll_3 : decode b_T_readAll 3 = .ok (.istore_n 3, 1) := by decide +kernel
theorem d_T_readAll_4 : decode b_T_readAll 4 = .ok (.iload_n 3, 1) := by decide +kernel
theorem d_T_readAll_5 : decode b_T_readAll 5 = .ok (.iload_n 1, 1) := by decide +kernel
theorem d_T_readAll_6 : decode b_T_readAll 6 = .ok (.if_icmp .ge 68, 3) := by decide +kernel
theorem d_T_readAll_9 : decode b_T_readAll 9 = .ok (.iload_n 2, 1) := by decide +kernel
theorem d_T_readAll_10 : decode b_T_readAll 10 = .ok (.iload_n 1, 1) := by decide +kernel
theorem d_T_readAll_11 : decode b_T_readAll 11 = .ok (.if_icmp .ge 63, 3) := by decide +kernel
theorem d_T_readAll_14 : decode b_T_readAll 14 = .ok (.aload_n 0, 1) := by decide +kernel
theorem d_T_readAll_15 : decode b_T_readAll 15 = .ok (.iload_n 1, 1) := by decide +kernel
theorem d_T_readAll_16 : decode b_T_readAll 16 = .ok (.iload_n 2, 1) := by decide +kernel
theorem d_T_readAll_17 : decode b_T_readAll 17 = .ok (.isub, 1) := by decide +kernel
theorem d_T_readAll_18 : decode b_T_readAll 18 = .ok (.invokevirtual 86, 3) := by decide +kernel
theorem d_T_readAll_21 : decode b_T_readAll 21 = .ok (.istore 4, 2) := by decide +kernel
theorem d_T_readAll_23 : decode b_T_readAll 23 = .ok (.iload 4, 2) := by decide +kernel
theorem d_T_readAll_25 : decode b_T_readAll 25 = .ok (.iconst (-1), 1) := by decide +kernel
theorem d_T_readAll_26 : decode b_T_readAll 26 = .ok (.if_icmp .ne 11, 3) := by decide +kernel
theorem d_T_readAll_29 : decode b_T_readAll 29 = .ok (.new 49, 3) := by decide +kernel
theorem d_T_readAll_32 : decode b_T_readAll 32 = .ok (.dup, 1) := by decide +kernel
theorem d_T_readAll_33 : decode b_T_readAll 33 = .ok (.invokespecial 51, 3) := by decide +kernel
theorem d_T_readAll_36 : decode b_T_readAll 36 = .ok (.athrow, 1) := by decide +kernel
theorem d_T_readAll_37 : decode b_T_readAll 37 = .ok (.iload 4, 2) := by decide +kernel
theorem d_T_readAll_39 : decode b_T_readAll 39 = .ok (.ifCond .ne 11, 3) := by decide +kernel
theorem d_T_readAll_42 : decode b_T_readAll 42 = .ok (.new 187, 3) := by decide +kernel
theorem d_T_readAll_45 : decode b_T_readAll 45 = .ok (.dup, 1) := by decide +kernel
theorem d_T_readAll_46 : decode b_T_readAll 46 = .ok (.invokespecial 189, 3) := by decide +kernel
theorem d_T_readAll_49 : decode b_T_readAll 49 = .ok (.athrow, 1) := by decide +kernel
theorem d_T_readAll_50 : decode b_T_readAll 50 = .ok (.aload_n 0, 1) := by decide +kernel
theorem d_T_readAll_51 : decode b_T_readAll 51 = .ok (.getfield 31, 3) := by decide +kernel
theorem d_T_readAll_54 : decode b_T_readAll 54 = .ok (.aload_n 0, 1) := by decide +kernel
theorem d_T_readAll_55 : decode b_T_readAll 55 = .ok (.getfield 22, 3) := by decide +kernel
theorem d_T_readAll_58 : decode b_T_readAll 58 = .ok (.iload 4, 2) := by decide +kernel
theorem d_T_readAll_60 : decode b_T_readAll 60 = .ok (.invokevirtual 90, 3) := by decide +kernel
theorem d_T_readAll_63 : decode b_T_readAll 63 = .ok (.iload_n 2, 1) := by decide +kernel
theorem d_T_readAll_64 : decode b_T_readAll 64 = .ok (.iload 4, 2) := by decide +kernel
theorem d_T_readAll_66 : decode b_T_readAll 66 = .ok (.iadd, 1) := by decide +kernel
theorem d_T_readAll_67 : decode b_T_readAll 67 = .ok (.istore_n 2, 1) := by decide +kernel
theorem d_T_readAll_68 : decode b_T_readAll 68 = .ok (.iinc 3 1, 3) := by decide +kernel
theorem d_T_readAll_71 : decode b_T_readAll 71 = .ok (.goto (-67), 3) := by decide +kernel
theorem d_T_readAll_74 : decode b_T_readAll 74 = .ok (.return_, 1) := by decide +kernel
theorem d_T_full_0 : decode b_T_full 0 = .ok (.aload_n 0, 1) := by decide +kernel
theorem d_T_full_1 : decode b_T_full 1 = .ok (.invokevirtual 83, 3) := by decide +kernel
theorem d_T_full_4 : decode b_T_full 4 = .ok (.iload_n 1, 1) := by decide +kernel
theorem d_T_full_5 : decode b_T_full 5 = .ok (.ifCond .lt 9, 3) := by decide +kernel
theorem d_T_full_8 : decode b_T_full 8 = .ok (.iload_n 1, 1) := by decide +kernel
theorem d_T_full_9 : decode b_T_full 9 = .ok (.bipush 60, 2) := by decide +kernel
theorem d_T_full_11 : decode b_T_full 11 = .ok (.if_icmp .le 11, 3) := by decide +kernel
theorem d_T_full_14 : decode b_T_full 14 = .ok (.new 42, 3) := by decide +kernel
theorem d_T_full_17 : decode b_T_full 17 = .ok (.dup, 1) := by decide +kernel
theorem d_T_full_18 : decode b_T_full 18 = .ok (.invokespecial 44, 3) := by decide +kernel
theorem d_T_full_21 : decode b_T_full 21 = .ok (.athrow, 1) := by decide +kernel
theorem d_T_full_22 : decode b_T_full 22 = .ok (.aload_n 0, 1) := by decide +kernel
theorem d_T_full_23 : decode b_T_full 23 = .ok (.iload_n 1, 1) := by decide +kernel
theorem d_T_full_24 : decode b_T_full 24 = .ok (.invokevirtual 97, 3) := by decide +kernel
theorem d_T_full_27 : decode b_T_full 27 = .ok (.return_, 1) := by decide +kernel
theorem d_T_skip_0 : decode b_T_skip 0 = .ok (.aload_n 0, 1) := by decide +kernel
theorem d_T_skip_1 : decode b_T_skip 1 = .ok (.invokevirtual 83, 3) := by decide +kernel
theorem d_T_skip_4 : decode b_T_skip 4 = .ok (.iload_n 1, 1) := by decide +kernel
theorem d_T_skip_5 : decode b_T_skip 5 = .ok (.ifCond .lt 9, 3) := by decide +kernel
theorem d_T_skip_8 : decode b_T_skip 8 = .ok (.iload_n 1, 1) := by decide +kernel
theorem d_T_skip_9 : decode b_T_skip 9 = .ok (.bipush 120, 2) := by decide +kernel
theorem d_T_skip_11 : decode b_T_skip 11 = .ok (.if_icmp .le 11, 3) := by decide +kernel
theorem d_T_skip_14 : decode b_T_skip 14 = .ok (.new 42, 3) := by decide +kernel
theorem d_T_skip_17 : decode b_T_skip 17 = .ok (.dup, 1) := by decide +kernel
theorem d_T_skip_18 : decode b_T_skip 18 = .ok (.invokespecial 44, 3) := by decide +kernel
theorem d_T_skip_21 : decode b_T_skip 21 = .ok (.athrow, 1) := by decide +kernel
theorem d_T_skip_22 : decode b_T_skip 22 = .ok (.iconst 0, 1) := by decide +kernel
theorem d_T_skip_23 : decode b_T_skip 23 = .ok (.istore_n 2, 1) := by decide +kernel
theorem d_T_skip_24 : decode b_T_skip 24 = .ok (.iconst 0, 1) := by decide +kernel
theorem d_T_skip_25 : decode b_T_skip 25 = .ok (.istore_n 3, 1) := by decide +kernel
theorem d_T_skip_26 : decode b_T_skip 26 = .ok (.iload_n 3, 1) := by decide +kernel
theorem d_T_skip_27 : decode b_T_skip 27 = .ok (.iload_n 1, 1) := by decide +kernel
theorem d_T_skip_28 : decode b_T_skip 28 = .ok (.if_icmp .ge 59, 3) := by decide +kernel
theorem d_T_skip_31 : decode b_T_skip 31 = .ok (.iload_n 2, 1) := by decide +kernel
theorem d_T_skip_32 : decode b_T_skip 32 = .ok (.iload_n 1, 1) := by decide +kernel
theorem d_T_skip_33 : decode b_T_skip 33 = .ok (.if_icmp .ge 54, 3) := by decide +kernel
theorem d_T_skip_36 : decode b_T_skip 36 = .ok (.aload_n 0, 1) := by decide +kernel
theorem d_T_skip_37 : decode b_T_skip 37 = .ok (.iload_n 1, 1) := by decide +kernel
theorem d_T_skip_38 : decode b_T_skip 38 = .ok (.iload_n 2, 1) := by decide +kernel
theorem d_T_skip_39 : decode b_T_skip 39 = .ok (.isub, 1) := by decide +kernel
theorem d_T_skip_40 : decode b_T_skip 40 = .ok (.invokevirtual 86, 3) := by decide +kernel
theorem d_T_skip_43 : decode b_T_skip 43 = .ok (.istore 4, 2) := by decide +kernel
theorem d_T_skip_45 : decode b_T_skip 45 = .ok (.iload 4, 2) := by decide +kernel
theorem d_T_skip_47 : decode b_T_skip 47 = .ok (.iconst (-1), 1) := by decide +kernel
theorem d_T_skip_48 : decode b_T_skip 48 = .ok (.if_icmp .ne 15, 3) := by decide +kernel
theorem d_T_skip_51 : decode b_T_skip 51 = .ok (.iload_n 2, 1) := by decide +kernel
theorem d_T_skip_52 : decode b_T_skip 52 = .ok (.ifCond .ne 11, 3) := by decide +kernel
theorem d_T_skip_55 : decode b_T_skip 55 = .ok (.new 49, 3) := by decide +kernel
theorem d_T_skip_58 : decode b_T_skip 58 = .ok (.dup, 1) := by decide +kernel
theorem d_T_skip_59 : decode b_T_skip 59 = .ok (.invokespecial 51, 3) := by decide +kernel
theorem d_T_skip_62 : decode b_T_skip 62 = .ok (.athrow, 1) := by decide +kernel
theorem d_T_skip_63 : decode b_T_skip 63 = .ok (.iload 4, 2) := by decide +kernel
theorem d_T_skip_65 : decode b_T_skip 65 = .ok (.iconst (-1), 1) := by decide +kernel
theorem d_T_skip_66 : decode b_T_skip 66 = .ok (.if_icmp .eq 8, 3) := by decide +kernel
theorem d_T_skip_69 : decode b_T_skip 69 = .ok (.iload 4, 2) := by decide +kernel
theorem d_T_skip_71 : decode b_T_skip 71 = .ok (.ifCond .ne 5, 3) := by decide +kernel
theorem d_T_skip_74 : decode b_T_skip 74 = .ok (.iload_n 2, 1) := by decide +kernel
theorem d_T_skip_75 : decode b_T_skip 75 = .ok (.ireturn, 1) := by decide +kernel
theorem d_T_skip_76 : decode b_T_skip 76 = .ok (.iload_n 2, 1) := by decide +kernel
theorem d_T_skip_77 : decode b_T_skip 77 = .ok (.iload 4, 2) := by decide +kernel
theorem d_T_skip_79 : decode b_T_skip 79 = .ok (.iadd, 1) := by decide +kernel
theorem d_T_skip_80 : decode b_T_skip 80 = .ok (.istore_n 2, 1) := by decide +kernel
theorem d_T_skip_81 : decode b_T_skip 81 = .ok (.iinc 3 1, 3) := by decide +kernel
theorem d_T_skip_84 : decode b_T_skip 84 = .ok (.goto (-58), 3) := by decide +kernel
theorem d_T_skip_87 : decode b_T_skip 87 = .ok (.iload_n 2, 1) := by decide +kernel
theorem d_T_skip_88 : decode b_T_skip 88 = .ok (.ireturn, 1) := by decide +kernel
theorem d_T_numberInBag_0 : decode b_T_numberInBag 0 = .ok (.lconst 0, 1) := by decide +kernel
theorem d_T_numberInBag_1 : decode b_T_numberInBag 1 = .ok (.lstore_n 2, 1) := by decide +kernel
theorem d_T_numberInBag_2 : decode b_T_numberInBag 2 = .ok (.iconst 0, 1) := by decide +kernel
theorem d_T_numberInBag_3 : decode b_T_numberInBag 3 = .ok (.istore 4, 2) := by decide +kernel
theorem d_T_numberInBag_5 : decode b_T_numberInBag 5 = .ok (.iload 4, 2) := by decide +kernel
theorem d_T_numberInBag_7 : decode b_T_numberInBag 7 = .ok (.iload_n 1, 1) := by decide +kernel
theorem d_T_numberInBag_8 : decode b_T_numberInBag 8 = .ok (.if_icmp .ge 25, 3) := by decide +kernel
theorem d_T_numberInBag_11 : decode b_T_numberInBag 11 = .ok (.lload_n 2, 1) := by decide +kernel
theorem d_T_numberInBag_12 : decode b_T_numberInBag 12 = .ok (.bipush 8, 2) := by decide +kernel
theorem d_T_numberInBag_14 : decode b_T_numberInBag 14 = .ok (.lshl, 1) := by decide +kernel
theorem d_T_numberInBag_15 : decode b_T_numberInBag 15 = .ok (.aload_n 0, 1) := by decide +kernel
theorem d_T_numberInBag_16 : decode b_T_numberInBag 16 = .ok (.getfield 31, 3) := by decide +kernel
theorem d_T_numberInBag_19 : decode b_T_numberInBag 19 = .ok (.iload 4, 2) := by decide +kernel
theorem d_T_numberInBag_21 : decode b_T_numberInBag 21 = .ok (.invokevirtual 94, 3) := by decide +kernel
theorem d_T_numberInBag_24 : decode b_T_numberInBag 24 = .ok (.i2l, 1) := by decide +kernel
theorem d_T_numberInBag_25 : decode b_T_numberInBag 25 = .ok (.lor, 1) := by decide +kernel
theorem d_T_numberInBag_26 : decode b_T_numberInBag 26 = .ok (.lstore_n 2, 1) := by decide +kernel
theorem d_T_numberInBag_27 : decode b_T_numberInBag 27 = .ok (.iinc 4 1, 3) := by decide +kernel
theorem d_T_numberInBag_30 : decode b_T_numberInBag 30 = .ok (.goto (-25), 3) := by decide +kernel
theorem d_T_numberInBag_33 : decode b_T_numberInBag 33 = .ok (.lload_n 2, 1) := by decide +kernel
theorem d_T_numberInBag_34 : decode b_T_numberInBag 34 = .ok (.lreturn, 1) := by decide +kernel
theorem nw_T_9 : nw_Ok "StreamTower" 9 2 5 [.null, .null, .null, .int 0, .int 0] := ⟨_, _, ty_2, rfl, wd_29, wd_30, wd_3, tyk_2, fun j hj => match j, hj with | 0, _ => rfl | 1, _ => rfl | 2, _ => rfl | 3, _ => rfl | 4, _ => rfl⟩
theorem fl_T_12 : fl_Ok "StreamTower" 12 "StreamTower" "source" "LStreamTower$Source;" "StreamTower" [0] 0 true (.object "StreamTower$Source") := ⟨wd_73, by decide +kernel, Or.inl rfl, fun t ht => by obtain rfl := List.mem_singleton.mp ht; exact ⟨_, _, _, rfl, by decide, rfl⟩⟩
theorem fl_T_18 : fl_Ok "StreamTower" 18 "StreamTower" "layers" "[LStreamTower$Stream;" "StreamTower" [0] 1 true (.array (.object "StreamTower$Stream")) := ⟨wd_74, by decide +kernel, Or.inl rfl, fun t ht => by obtain rfl := List.mem_singleton.mp ht; exact ⟨_, _, _, rfl, by decide, rfl⟩⟩
theorem fl_T_22 : fl_Ok "StreamTower" 22 "StreamTower" "answered" "[I" "StreamTower" [0] 2 true (.array .int) := ⟨wd_75, by decide +kernel, Or.inl rfl, fun t ht => by obtain rfl := List.mem_singleton.mp ht; exact ⟨_, _, _, rfl, by decide, rfl⟩⟩
theorem nw_T_26 : nw_Ok "StreamTower" 26 1 2 [.null, .int 0] := ⟨_, _, ty_1, rfl, wd_59, wd_60, wd_4, tyk_1, fun j hj => match j, hj with | 0, _ => rfl | 1, _ => rfl⟩
theorem fl_T_31 : fl_Ok "StreamTower" 31 "StreamTower" "bag" "LStreamTower$Row;" "StreamTower" [0] 3 true (.object "StreamTower$Row") := ⟨wd_76, by decide +kernel, Or.inl rfl, fun t ht => by obtain rfl := List.mem_singleton.mp ht; exact ⟨_, _, _, rfl, by decide, rfl⟩⟩
theorem fl_T_35 : fl_Ok "StreamTower" 35 "StreamTower" "letters" "LStreamTower$Row;" "StreamTower" [0] 4 true (.object "StreamTower$Row") := ⟨wd_77, by decide +kernel, Or.inl rfl, fun t ht => by obtain rfl := List.mem_singleton.mp ht; exact ⟨_, _, _, rfl, by decide, rfl⟩⟩
theorem fl_T_38 : fl_Ok "StreamTower" 38 "StreamTower" "top" "LStreamTower$Stream;" "StreamTower" [0] 5 false (.object "StreamTower$Stream") := ⟨wd_78, by decide +kernel, Or.inl rfl, fun t ht => by obtain rfl := List.mem_singleton.mp ht; exact ⟨_, _, _, rfl, by decide, rfl⟩⟩
theorem md_T_init : md_Ok y_T_init (.code y_T_init b_T_init 1 none) 1 := ⟨wd_25, wd_1, ⟨by decide, by decide⟩, Or.inl ⟨_, _, rfl⟩⟩
theorem ml_T_init : (parseMethodDescriptor y_T_init.desc).map (fun d => d.parameters.length) = some 0 := by decide +kernel
theorem tha_T_49 : ∀ w ∈ Bundle.ownAtoms0 "StreamTower" 51 "java/lang/IllegalStateException" ["java/lang/RuntimeException", "java/lang/Exception"], th_W w := by
  intro w hw
  rcases List.mem_cons.mp hw with rfl | hw
  · exact Or.inl wd_6
  rcases List.mem_cons.mp hw with rfl | hw
  · exact Or.inl wd_232
  rcases List.mem_cons.mp hw with rfl | hw
  · exact Or.inl wd_241
  rcases List.mem_cons.mp hw with rfl | hw
  · exact Or.inl wd_246
  rcases List.mem_cons.mp hw with rfl | hw
  · exact Or.inl wd_249
  rcases List.mem_cons.mp hw with rfl | hw
  · exact Or.inl wd_251
  rcases List.mem_cons.mp hw with rfl | hw
  · exact Or.inl wd_233
  rcases List.mem_cons.mp hw with rfl | hw
  · exact Or.inl wd_234
  rcases List.mem_cons.mp hw with rfl | hw
  · exact Or.inl wd_27
  rcases List.mem_cons.mp hw with rfl | hw
  · exact Or.inl wd_28
  rcases List.mem_cons.mp hw with rfl | hw
  · exact Or.inl wd_235
  rcases List.mem_cons.mp hw with rfl | hw
  · exact Or.inl wd_240
  rcases List.mem_cons.mp hw with rfl | hw
  · exact Or.inl wd_247
  rcases List.mem_cons.mp hw with rfl | hw
  · exact Or.inl wd_263
  rcases List.mem_cons.mp hw with rfl | hw
  · exact Or.inl wd_222
  rcases List.mem_cons.mp hw with rfl | hw
  · exact Or.inl wd_264
  rcases List.mem_cons.mp hw with rfl | hw
  · exact Or.inl wd_224
  rcases List.mem_cons.mp hw with rfl | hw
  · exact Or.inl wd_265
  rcases List.mem_cons.mp hw with rfl | hw
  · exact Or.inl wd_226
  rcases List.mem_cons.mp hw with rfl | hw
  · exact Or.inl wd_236
  rcases List.mem_cons.mp hw with rfl | hw
  · exact Or.inr (Or.inl ⟨List.mem_append_right _ (List.mem_of_getElem? (i := 237) rfl), _, _, _, rfl⟩)
  rcases List.mem_cons.mp hw with rfl | hw
  · exact Or.inl wd_238
  rcases List.mem_cons.mp hw with rfl | hw
  · exact Or.inr (Or.inl ⟨List.mem_append_right _ (List.mem_of_getElem? (i := 239) rfl), _, _, _, rfl⟩)
  rcases List.mem_cons.mp hw with rfl | hw
  · exact Or.inl wd_228
  rcases List.mem_cons.mp hw with rfl | hw
  · exact Or.inl wd_288
  rcases List.mem_cons.mp hw with rfl | hw
  · exact Or.inl wd_289
  rcases List.mem_cons.mp hw with rfl | hw
  · exact Or.inl wd_290
  rcases List.mem_cons.mp hw with rfl | hw
  · exact Or.inl wd_256
  rcases List.mem_cons.mp hw with rfl | hw
  · exact Or.inl wd_213
  rcases List.mem_cons.mp hw with rfl | hw
  · exact Or.inl wd_256
  rcases List.mem_cons.mp hw with rfl | hw
  · exact Or.inl wd_257
  rcases List.mem_cons.mp hw with rfl | hw
  · exact Or.inl wd_258
  rcases List.mem_cons.mp hw with rfl | hw
  · exact Or.inl wd_259
  rcases List.mem_cons.mp hw with rfl | hw
  · exact Or.inl wd_215
  rcases List.mem_cons.mp hw with rfl | hw
  · exact Or.inl wd_259
  rcases List.mem_cons.mp hw with rfl | hw
  · exact Or.inl wd_260
  rcases List.mem_cons.mp hw with rfl | hw
  · exact Or.inl wd_261
  rcases List.mem_cons.mp hw with rfl | hw
  · exact Or.inl wd_233
  rcases List.mem_cons.mp hw with rfl | hw
  · exact Or.inl wd_217
  rcases List.mem_cons.mp hw with rfl | hw
  · exact Or.inl wd_287
  rcases List.mem_cons.mp hw with rfl | hw
  · exact Or.inl wd_279
  rcases List.mem_cons.mp hw with rfl | hw
  · exact Or.inl wd_280
  rcases List.mem_cons.mp hw with rfl | hw
  · exact Or.inl wd_281
  rcases List.mem_cons.mp hw with rfl | hw
  · exact Or.inl wd_243
  rcases List.mem_cons.mp hw with rfl | hw
  · exact Or.inl wd_282
  rcases List.mem_cons.mp hw with rfl | hw
  · exact Or.inl wd_283
  rcases List.mem_cons.mp hw with rfl | hw
  · exact Or.inl wd_284
  rcases List.mem_cons.mp hw with rfl | hw
  · exact Or.inl wd_285
  rcases List.mem_cons.mp hw with rfl | hw
  · exact Or.inr (Or.inr (Or.inl rfl))
  rcases List.mem_cons.mp hw with rfl | hw
  · exact Or.inr (Or.inr (Or.inr rfl))
  rcases List.mem_cons.mp hw with rfl | hw
  · exact Or.inl wd_231
  rcases List.mem_cons.mp hw with rfl | hw
  · exact Or.inl wd_230
  rcases List.mem_cons.mp hw with rfl | hw
  · exact Or.inl wd_286
  cases hw
theorem fl_T_55 : fl_Ok "StreamTower" 55 "StreamTower$Source" "count" "I" "StreamTower$Source" [2] 3 false (.int) := ⟨wd_42, by decide +kernel, Or.inl rfl, fun t ht => by obtain rfl := List.mem_singleton.mp ht; exact ⟨_, _, _, rfl, by decide, rfl⟩⟩
theorem tha_T_42 : ∀ w ∈ Bundle.ownAtoms0 "StreamTower" 44 "java/lang/IllegalArgumentException" ["java/lang/RuntimeException", "java/lang/Exception"], th_W w := by
  intro w hw
  rcases List.mem_cons.mp hw with rfl | hw
  · exact Or.inl wd_6
  rcases List.mem_cons.mp hw with rfl | hw
  · exact Or.inl wd_232
  rcases List.mem_cons.mp hw with rfl | hw
  · exact Or.inl wd_241
  rcases List.mem_cons.mp hw with rfl | hw
  · exact Or.inl wd_246
  rcases List.mem_cons.mp hw with rfl | hw
  · exact Or.inl wd_249
  rcases List.mem_cons.mp hw with rfl | hw
  · exact Or.inl wd_251
  rcases List.mem_cons.mp hw with rfl | hw
  · exact Or.inl wd_233
  rcases List.mem_cons.mp hw with rfl | hw
  · exact Or.inl wd_234
  rcases List.mem_cons.mp hw with rfl | hw
  · exact Or.inl wd_27
  rcases List.mem_cons.mp hw with rfl | hw
  · exact Or.inl wd_28
  rcases List.mem_cons.mp hw with rfl | hw
  · exact Or.inl wd_235
  rcases List.mem_cons.mp hw with rfl | hw
  · exact Or.inl wd_240
  rcases List.mem_cons.mp hw with rfl | hw
  · exact Or.inl wd_247
  rcases List.mem_cons.mp hw with rfl | hw
  · exact Or.inl wd_263
  rcases List.mem_cons.mp hw with rfl | hw
  · exact Or.inl wd_222
  rcases List.mem_cons.mp hw with rfl | hw
  · exact Or.inl wd_264
  rcases List.mem_cons.mp hw with rfl | hw
  · exact Or.inl wd_224
  rcases List.mem_cons.mp hw with rfl | hw
  · exact Or.inl wd_265
  rcases List.mem_cons.mp hw with rfl | hw
  · exact Or.inl wd_226
  rcases List.mem_cons.mp hw with rfl | hw
  · exact Or.inl wd_236
  rcases List.mem_cons.mp hw with rfl | hw
  · exact Or.inr (Or.inl ⟨List.mem_append_right _ (List.mem_of_getElem? (i := 237) rfl), _, _, _, rfl⟩)
  rcases List.mem_cons.mp hw with rfl | hw
  · exact Or.inl wd_238
  rcases List.mem_cons.mp hw with rfl | hw
  · exact Or.inr (Or.inl ⟨List.mem_append_right _ (List.mem_of_getElem? (i := 239) rfl), _, _, _, rfl⟩)
  rcases List.mem_cons.mp hw with rfl | hw
  · exact Or.inl wd_228
  rcases List.mem_cons.mp hw with rfl | hw
  · exact Or.inl wd_253
  rcases List.mem_cons.mp hw with rfl | hw
  · exact Or.inl wd_254
  rcases List.mem_cons.mp hw with rfl | hw
  · exact Or.inl wd_255
  rcases List.mem_cons.mp hw with rfl | hw
  · exact Or.inl wd_256
  rcases List.mem_cons.mp hw with rfl | hw
  · exact Or.inl wd_213
  rcases List.mem_cons.mp hw with rfl | hw
  · exact Or.inl wd_256
  rcases List.mem_cons.mp hw with rfl | hw
  · exact Or.inl wd_257
  rcases List.mem_cons.mp hw with rfl | hw
  · exact Or.inl wd_258
  rcases List.mem_cons.mp hw with rfl | hw
  · exact Or.inl wd_259
  rcases List.mem_cons.mp hw with rfl | hw
  · exact Or.inl wd_215
  rcases List.mem_cons.mp hw with rfl | hw
  · exact Or.inl wd_259
  rcases List.mem_cons.mp hw with rfl | hw
  · exact Or.inl wd_260
  rcases List.mem_cons.mp hw with rfl | hw
  · exact Or.inl wd_261
  rcases List.mem_cons.mp hw with rfl | hw
  · exact Or.inl wd_233
  rcases List.mem_cons.mp hw with rfl | hw
  · exact Or.inl wd_217
  rcases List.mem_cons.mp hw with rfl | hw
  · exact Or.inl wd_252
  rcases List.mem_cons.mp hw with rfl | hw
  · exact Or.inl wd_211
  rcases List.mem_cons.mp hw with rfl | hw
  · exact Or.inl wd_212
  rcases List.mem_cons.mp hw with rfl | hw
  · exact Or.inl wd_219
  rcases List.mem_cons.mp hw with rfl | hw
  · exact Or.inl wd_220
  rcases List.mem_cons.mp hw with rfl | hw
  · exact Or.inl wd_221
  rcases List.mem_cons.mp hw with rfl | hw
  · exact Or.inl wd_223
  rcases List.mem_cons.mp hw with rfl | hw
  · exact Or.inl wd_225
  rcases List.mem_cons.mp hw with rfl | hw
  · exact Or.inl wd_227
  rcases List.mem_cons.mp hw with rfl | hw
  · exact Or.inr (Or.inr (Or.inl rfl))
  rcases List.mem_cons.mp hw with rfl | hw
  · exact Or.inr (Or.inr (Or.inr rfl))
  rcases List.mem_cons.mp hw with rfl | hw
  · exact Or.inl wd_231
  rcases List.mem_cons.mp hw with rfl | hw
  · exact Or.inl wd_230
  rcases List.mem_cons.mp hw with rfl | hw
  · exact Or.inl wd_229
  cases hw
theorem md_T_feed : md_Ok y_T_feed (.code y_T_feed b_T_feed 4 (some .int)) 4 := ⟨wd_209, wd_1, ⟨by decide, by decide⟩, Or.inl ⟨_, _, rfl⟩⟩
theorem ml_T_feed : (parseMethodDescriptor y_T_feed.desc).map (fun d => d.parameters.length) = some 2 := by decide +kernel
theorem md_T_portion : md_Ok y_T_portion (.code y_T_portion b_T_portion 1 none) 1 := ⟨wd_107, wd_1, ⟨by decide, by decide⟩, Or.inl ⟨_, _, rfl⟩⟩
theorem ml_T_portion : (parseMethodDescriptor y_T_portion.desc).map (fun d => d.parameters.length) = some 0 := by decide +kernel
theorem md_T_breakAt : md_Ok y_T_breakAt (.code y_T_breakAt b_T_breakAt 2 (some .boolean)) 2 := ⟨wd_115, wd_1, ⟨by decide, by decide⟩, Or.inl ⟨_, _, rfl⟩⟩
theorem ml_T_breakAt : (parseMethodDescriptor y_T_breakAt.desc).map (fun d => d.parameters.length) = some 1 := by decide +kernel
theorem md_T_isSizeOfKind : md_Ok y_T_isSizeOfKind (.code y_T_isSizeOfKind b_T_isSizeOfKind 2 (some .boolean)) 2 := ⟨wd_307, wd_1, ⟨by decide, by decide⟩, Or.inl ⟨_, _, rfl⟩⟩
theorem ml_T_isSizeOfKind : (parseMethodDescriptor y_T_isSizeOfKind.desc).map (fun d => d.parameters.length) = some 2 := by decide +kernel
theorem nw_T_169 : nw_Ok "StreamTower" 169 7 5 [.null, .int 0, .int 0, .int 0, .int 0] := ⟨_, _, ty_7, rfl, wd_400, wd_401, wd_16, tyk_7, fun j hj => match j, hj with | 0, _ => rfl | 1, _ => rfl | 2, _ => rfl | 3, _ => rfl | 4, _ => rfl⟩
theorem nw_T_166 : nw_Ok "StreamTower" 166 6 4 [.null, .int 0, .int 0, .int 0] := ⟨_, _, ty_6, rfl, wd_383, wd_384, wd_15, tyk_6, fun j hj => match j, hj with | 0, _ => rfl | 1, _ => rfl | 2, _ => rfl | 3, _ => rfl⟩
theorem nw_T_163 : nw_Ok "StreamTower" 163 5 3 [.null, .int 0, .int 0] := ⟨_, _, ty_5, rfl, wd_358, wd_359, wd_14, tyk_5, fun j hj => match j, hj with | 0, _ => rfl | 1, _ => rfl | 2, _ => rfl⟩
theorem nw_T_140 : nw_Ok "StreamTower" 140 4 3 [.null, .null, .int 0] := ⟨_, _, ty_4, rfl, wd_342, wd_343, wd_12, tyk_4, fun j hj => match j, hj with | 0, _ => rfl | 1, _ => rfl | 2, _ => rfl⟩
theorem nw_T_157 : nw_Ok "StreamTower" 157 3 8 [.null, .int 0, .null, .int 0, .int 0, .int 0, .int 0, .int 0] := ⟨_, _, ty_3, rfl, wd_311, wd_312, wd_11, tyk_3, fun j hj => match j, hj with | 0, _ => rfl | 1, _ => rfl | 2, _ => rfl | 3, _ => rfl | 4, _ => rfl | 5, _ => rfl | 6, _ => rfl | 7, _ => rfl⟩
theorem md_T_layerOver : md_Ok y_T_layerOver (.code y_T_layerOver b_T_layerOver 3 (some (.object "StreamTower$Stream"))) 3 := ⟨wd_310, wd_1, ⟨by decide, by decide⟩, Or.inl ⟨_, _, rfl⟩⟩
theorem ml_T_layerOver : (parseMethodDescriptor y_T_layerOver.desc).map (fun d => d.parameters.length) = some 3 := by decide +kernel
theorem fl_T_72 : fl_Ok "StreamTower" 72 "StreamTower" "closed" "Z" "StreamTower" [0] 7 false (.boolean) := ⟨wd_80, by decide +kernel, Or.inl rfl, fun t ht => by obtain rfl := List.mem_singleton.mp ht; exact ⟨_, _, _, rfl, by decide, rfl⟩⟩
theorem fl_T_76 : fl_Ok "StreamTower" 76 "StreamTower" "layerCount" "I" "StreamTower" [0] 6 false (.int) := ⟨wd_79, by decide +kernel, Or.inl rfl, fun t ht => by obtain rfl := List.mem_singleton.mp ht; exact ⟨_, _, _, rfl, by decide, rfl⟩⟩
theorem md_T_push : md_Ok y_T_push (.code y_T_push b_T_push 3 (some .int)) 3 := ⟨wd_304, wd_1, ⟨by decide, by decide⟩, Or.inl ⟨_, _, rfl⟩⟩
theorem ml_T_push : (parseMethodDescriptor y_T_push.desc).map (fun d => d.parameters.length) = some 2 := by decide +kernel
theorem md_T_refuseWhenClosed : md_Ok y_T_refuseWhenClosed (.code y_T_refuseWhenClosed b_T_refuseWhenClosed 1 none) 1 := ⟨wd_438, wd_1, ⟨by decide, by decide⟩, Or.inl ⟨_, _, rfl⟩⟩
theorem ml_T_refuseWhenClosed : (parseMethodDescriptor y_T_refuseWhenClosed.desc).map (fun d => d.parameters.length) = some 0 := by decide +kernel
theorem md_T_startReading : md_Ok y_T_startReading (.code y_T_startReading b_T_startReading 1 none) 1 := ⟨wd_430, wd_1, ⟨by decide, by decide⟩, Or.inl ⟨_, _, rfl⟩⟩
theorem ml_T_startReading : (parseMethodDescriptor y_T_startReading.desc).map (fun d => d.parameters.length) = some 0 := by decide +kernel
theorem fl_T_112 : fl_Ok "StreamTower" 112 "StreamTower" "leavesOutLineFeed" "Z" "StreamTower" [0] 8 false (.boolean) := ⟨wd_81, by decide +kernel, Or.inl rfl, fun t ht => by obtain rfl := List.mem_singleton.mp ht; exact ⟨_, _, _, rfl, by decide, rfl⟩⟩
theorem md_T_request : md_Ok y_T_request (.code y_T_request b_T_request 3 (some .int)) 3 := ⟨wd_442, wd_1, ⟨by decide, by decide⟩, Or.inl ⟨_, _, rfl⟩⟩
theorem ml_T_request : (parseMethodDescriptor y_T_request.desc).map (fun d => d.parameters.length) = some 1 := by decide +kernel
theorem md_T_read : md_Ok y_T_read (.code y_T_read b_T_read 2 (some .int)) 2 := ⟨wd_426, wd_1, ⟨by decide, by decide⟩, Or.inl ⟨_, _, rfl⟩⟩
theorem ml_T_read : (parseMethodDescriptor y_T_read.desc).map (fun d => d.parameters.length) = some 0 := by decide +kernel
theorem md_T_some : md_Ok y_T_some (.code y_T_some b_T_some 3 (some .int)) 3 := ⟨wd_504, wd_1, ⟨by decide, by decide⟩, Or.inl ⟨_, _, rfl⟩⟩
theorem ml_T_some : (parseMethodDescriptor y_T_some.desc).map (fun d => d.parameters.length) = some 1 := by decide +kernel
theorem tha_T_187 : ∀ w ∈ Bundle.ownAtoms0 "StreamTower" 189 "java/util/NoSuchElementException" ["java/lang/RuntimeException", "java/lang/Exception"], th_W w := by
  intro w hw
  rcases List.mem_cons.mp hw with rfl | hw
  · exact Or.inl wd_6
  rcases List.mem_cons.mp hw with rfl | hw
  · exact Or.inl wd_232
  rcases List.mem_cons.mp hw with rfl | hw
  · exact Or.inl wd_241
  rcases List.mem_cons.mp hw with rfl | hw
  · exact Or.inl wd_246
  rcases List.mem_cons.mp hw with rfl | hw
  · exact Or.inl wd_249
  rcases List.mem_cons.mp hw with rfl | hw
  · exact Or.inl wd_251
  rcases List.mem_cons.mp hw with rfl | hw
  · exact Or.inl wd_233
  rcases List.mem_cons.mp hw with rfl | hw
  · exact Or.inl wd_234
  rcases List.mem_cons.mp hw with rfl | hw
  · exact Or.inl wd_27
  rcases List.mem_cons.mp hw with rfl | hw
  · exact Or.inl wd_28
  rcases List.mem_cons.mp hw with rfl | hw
  · exact Or.inl wd_235
  rcases List.mem_cons.mp hw with rfl | hw
  · exact Or.inl wd_240
  rcases List.mem_cons.mp hw with rfl | hw
  · exact Or.inl wd_247
  rcases List.mem_cons.mp hw with rfl | hw
  · exact Or.inl wd_263
  rcases List.mem_cons.mp hw with rfl | hw
  · exact Or.inl wd_222
  rcases List.mem_cons.mp hw with rfl | hw
  · exact Or.inl wd_264
  rcases List.mem_cons.mp hw with rfl | hw
  · exact Or.inl wd_224
  rcases List.mem_cons.mp hw with rfl | hw
  · exact Or.inl wd_265
  rcases List.mem_cons.mp hw with rfl | hw
  · exact Or.inl wd_226
  rcases List.mem_cons.mp hw with rfl | hw
  · exact Or.inl wd_236
  rcases List.mem_cons.mp hw with rfl | hw
  · exact Or.inr (Or.inl ⟨List.mem_append_right _ (List.mem_of_getElem? (i := 237) rfl), _, _, _, rfl⟩)
  rcases List.mem_cons.mp hw with rfl | hw
  · exact Or.inl wd_238
  rcases List.mem_cons.mp hw with rfl | hw
  · exact Or.inr (Or.inl ⟨List.mem_append_right _ (List.mem_of_getElem? (i := 239) rfl), _, _, _, rfl⟩)
  rcases List.mem_cons.mp hw with rfl | hw
  · exact Or.inl wd_228
  rcases List.mem_cons.mp hw with rfl | hw
  · exact Or.inl wd_527
  rcases List.mem_cons.mp hw with rfl | hw
  · exact Or.inl wd_528
  rcases List.mem_cons.mp hw with rfl | hw
  · exact Or.inl wd_529
  rcases List.mem_cons.mp hw with rfl | hw
  · exact Or.inl wd_256
  rcases List.mem_cons.mp hw with rfl | hw
  · exact Or.inl wd_213
  rcases List.mem_cons.mp hw with rfl | hw
  · exact Or.inl wd_256
  rcases List.mem_cons.mp hw with rfl | hw
  · exact Or.inl wd_257
  rcases List.mem_cons.mp hw with rfl | hw
  · exact Or.inl wd_258
  rcases List.mem_cons.mp hw with rfl | hw
  · exact Or.inl wd_259
  rcases List.mem_cons.mp hw with rfl | hw
  · exact Or.inl wd_215
  rcases List.mem_cons.mp hw with rfl | hw
  · exact Or.inl wd_259
  rcases List.mem_cons.mp hw with rfl | hw
  · exact Or.inl wd_260
  rcases List.mem_cons.mp hw with rfl | hw
  · exact Or.inl wd_261
  rcases List.mem_cons.mp hw with rfl | hw
  · exact Or.inl wd_233
  rcases List.mem_cons.mp hw with rfl | hw
  · exact Or.inl wd_217
  rcases List.mem_cons.mp hw with rfl | hw
  · exact Or.inl wd_526
  rcases List.mem_cons.mp hw with rfl | hw
  · exact Or.inl wd_518
  rcases List.mem_cons.mp hw with rfl | hw
  · exact Or.inl wd_519
  rcases List.mem_cons.mp hw with rfl | hw
  · exact Or.inl wd_520
  rcases List.mem_cons.mp hw with rfl | hw
  · exact Or.inl wd_245
  rcases List.mem_cons.mp hw with rfl | hw
  · exact Or.inl wd_521
  rcases List.mem_cons.mp hw with rfl | hw
  · exact Or.inl wd_522
  rcases List.mem_cons.mp hw with rfl | hw
  · exact Or.inl wd_523
  rcases List.mem_cons.mp hw with rfl | hw
  · exact Or.inl wd_524
  rcases List.mem_cons.mp hw with rfl | hw
  · exact Or.inr (Or.inr (Or.inl rfl))
  rcases List.mem_cons.mp hw with rfl | hw
  · exact Or.inr (Or.inr (Or.inr rfl))
  rcases List.mem_cons.mp hw with rfl | hw
  · exact Or.inl wd_231
  rcases List.mem_cons.mp hw with rfl | hw
  · exact Or.inl wd_230
  rcases List.mem_cons.mp hw with rfl | hw
  · exact Or.inl wd_525
  cases hw
theorem md_T_readAll : md_Ok y_T_readAll (.code y_T_readAll b_T_readAll 5 none) 5 := ⟨wd_516, wd_1, ⟨by decide, by decide⟩, Or.inl ⟨_, _, rfl⟩⟩
theorem ml_T_readAll : (parseMethodDescriptor y_T_readAll.desc).map (fun d => d.parameters.length) = some 1 := by decide +kernel
theorem md_T_full : md_Ok y_T_full (.code y_T_full b_T_full 2 none) 2 := ⟨wd_512, wd_1, ⟨by decide, by decide⟩, Or.inl ⟨_, _, rfl⟩⟩
theorem ml_T_full : (parseMethodDescriptor y_T_full.desc).map (fun d => d.parameters.length) = some 1 := by decide +kernel
theorem md_T_skip : md_Ok y_T_skip (.code y_T_skip b_T_skip 5 (some .int)) 5 := ⟨wd_538, wd_1, ⟨by decide, by decide⟩, Or.inl ⟨_, _, rfl⟩⟩
theorem ml_T_skip : (parseMethodDescriptor y_T_skip.desc).map (fun d => d.parameters.length) = some 1 := by decide +kernel
theorem md_T_numberInBag : md_Ok y_T_numberInBag (.code y_T_numberInBag b_T_numberInBag 5 (some .long)) 5 := ⟨wd_549, wd_1, ⟨by decide, by decide⟩, Or.inl ⟨_, _, rfl⟩⟩
theorem ml_T_numberInBag : (parseMethodDescriptor y_T_numberInBag.desc).map (fun d => d.parameters.length) = some 1 := by decide +kernel
def f_T_init (t0 : Nat) (h0 : Hs_t) : Rs_t := (nw_O 2 [.null, .null, .null, .int 0, .int 0] h0).bind fun h1 => bd_V (f_Src_init h0.1 h1) (fun h2 => (pt_V [0] 0 h2 t0 (.ref h0.1)).bind fun h3 => (nw_R 5 5 h3).bind fun h4 => (pt_V [0] 1 h4 t0 (.ref h3.1)).bind fun h5 => (nw_I 120 120 h5).bind fun h6 => (pt_V [0] 2 h6 t0 (.ref h5.1)).bind fun h7 => (nw_O 1 [.null, .int 0] h7).bind fun h8 => bd_V (f_Row_init h7.1 160 h8) (fun h9 => (pt_V [0] 3 h9 t0 (.ref h7.1)).bind fun h10 => (nw_O 1 [.null, .int 0] h10).bind fun h11 => bd_V (f_Row_init h10.1 118 h11) (fun h12 => (pt_V [0] 4 h12 t0 (.ref h10.1)).bind fun h13 => (fd_A [0] 0 h13 t0).bind fun v1 => (pt_V [0] 5 h13 t0 (.ref v1)).bind fun h14 => re_V h14)))
set_option maxRecDepth 100000 in
set_option maxHeartbeats 4000000 in
theorem c_T_init {l : Launch} {s0 : State} {A0 : Array Value} {G : Gx_t} (hG : G_0 l s0 A0 G) (rm : Room) (hrm : rm_Ok 10 816 3 52 rm) (t0 : Nat) (h0 : Hs_t) (r : Outcome × Hs_t) (heq : f_T_init t0 h0 = some r) : M_X G s0 l y_T_init (.code y_T_init b_T_init 1 none) rm [.ref t0] h0 r := by
  refine M_X.of (by decide) hG (fun p e s m below meth c H hc hR => ?_)
  have hx := hc.x
  have hb := hc.b
  obtain ⟨hm1, hm2, hm3, hm4⟩ := id hrm
  have hLo : Lo_k s0 [] := fun _ hq => absurd hq List.not_mem_nil
  have hl := lv_entry ([.ref t0]) (n := 1) (Nat.le_of_ble_eq_true rfl)
  rw [lg_entry_eq]
  generalize (lg_sl ([.ref t0]) ++ List.replicate (1 - (lg_sl ([.ref t0])).length) Slot.unset).toArray = ls at hl ⊢
  have hl : lv_has ls 1 [(0, .ref t0)] := hl
  generalize hle : ([] : List Loc) = locs at hLo ⊢
  unfold f_T_init at heq
  refine lv_aload_n hx hb d_T_init_0 rfl (lv_at hl 0 rfl) ?_
  refine W.objInit hx hb hc.o (hc.w wd_26) (hc.w wd_27) (hc.w wd_28) rfl (by rw [hc.ml]; exact hl.1) rfl d_T_init_1 (by omega) (by show 2 * 0 + 0 + 12 ≤ _; omega) ?_
  refine W.eq (g2 := F0 m 4 ls []) rfl ?_
  refine lv_aload_n hx hb d_T_init_4 rfl (lv_at hl 0 rfl) ?_
  refine x_new hc hR nw_T_9 ⟨by omega, by omega⟩ heq d_T_init_5 (fun h1 H hR heq => ?_)
  refine lv_dup hx hb d_T_init_8 rfl ?_
  refine x_bV (mc := 3) (ms := 362) (st := [.ref h0.1, .ref t0]) hc hLo heq ⟨by omega, by omega⟩ (fun r9 h9 => x_runI hc (c_Src_init hc.g rm_Src_init rk_Src_init _ _ _ h9) md_Src_init hR wd_31 wd_32 rfl ⟨_, rfl⟩ hl.1 ml_Src_init rfl (Nat.le_of_ble_eq_true rfl) d_T_init_9 ⟨by show 2 + 1 ≤ _; omega, by show 8 + (1 + 11) + (32) ≤ _; omega⟩ ⟨by show 1 + 3 ≤ _; omega, by show 5 + 362 ≤ _; omega⟩) (fun h2 H locs hR hLo heq => ?_)
  refine x_pV hc hR hLo fl_T_12 (Or.inr ⟨rfl, rfl⟩) rfl rfl heq d_T_init_12 (fun h3 H locs hR hLo heq => ?_)
  refine lv_aload_n hx hb d_T_init_15 rfl (lv_at hl 0 rfl) ?_
  refine lv_iconst (v := 5) hx hb d_T_init_16 (by decide) ?_
  refine x_newR hc hR wd_57 wd_58 (by decide) ⟨by omega, by omega⟩ heq d_T_init_17 (fun h4 H hR heq => ?_)
  refine x_pV hc hR hLo fl_T_18 (Or.inr ⟨rfl, rfl⟩) rfl rfl heq d_T_init_20 (fun h5 H locs hR hLo heq => ?_)
  refine lv_aload_n hx hb d_T_init_23 rfl (lv_at hl 0 rfl) ?_
  refine lv_bipush (v := 120) hx hb d_T_init_24 (by decide) ?_
  refine x_newI hc hR wd_55 (by decide) ⟨by omega, by omega⟩ heq d_T_init_26 (fun h6 H hR heq => ?_)
  refine x_pV hc hR hLo fl_T_22 (Or.inr ⟨rfl, rfl⟩) rfl rfl heq d_T_init_28 (fun h7 H locs hR hLo heq => ?_)
  refine lv_aload_n hx hb d_T_init_31 rfl (lv_at hl 0 rfl) ?_
  refine x_new hc hR nw_T_26 ⟨by omega, by omega⟩ heq d_T_init_32 (fun h8 H hR heq => ?_)
  refine lv_dup hx hb d_T_init_35 rfl ?_
  refine lv_sipush (v := 160) hx hb d_T_init_36 (by decide) ?_
  refine x_bV (mc := 1) (ms := 160) (st := [.ref h7.1, .ref t0]) hc hLo heq ⟨by omega, by omega⟩ (fun r9 h9 => x_runI hc (c_Row_init hc.g rm_Row_init rk_Row_init _ _ _ _ h9) md_Row_init hR wd_61 wd_62 rfl ⟨_, rfl⟩ hl.1 ml_Row_init rfl (Nat.le_of_ble_eq_true rfl) d_T_init_39 ⟨by show 1 + 1 ≤ _; omega, by show 8 + (2 + 11) + (12) ≤ _; omega⟩ ⟨by show 7 + 1 ≤ _; omega, by show 494 + 160 ≤ _; omega⟩) (fun h9 H locs hR hLo heq => ?_)
  refine x_pV hc hR hLo fl_T_31 (Or.inr ⟨rfl, rfl⟩) rfl rfl heq d_T_init_42 (fun h10 H locs hR hLo heq => ?_)
  refine lv_aload_n hx hb d_T_init_45 rfl (lv_at hl 0 rfl) ?_
  refine x_new hc hR nw_T_26 ⟨by omega, by omega⟩ heq d_T_init_46 (fun h11 H hR heq => ?_)
  refine lv_dup hx hb d_T_init_49 rfl ?_
  refine lv_bipush (v := 118) hx hb d_T_init_50 (by decide) ?_
  refine x_bV (mc := 1) (ms := 160) (st := [.ref h10.1, .ref t0]) hc hLo heq ⟨by omega, by omega⟩ (fun r9 h9 => x_runI hc (c_Row_init hc.g rm_Row_init rk_Row_init _ _ _ _ h9) md_Row_init hR wd_61 wd_62 rfl ⟨_, rfl⟩ hl.1 ml_Row_init rfl (Nat.le_of_ble_eq_true rfl) d_T_init_52 ⟨by show 1 + 1 ≤ _; omega, by show 8 + (2 + 11) + (12) ≤ _; omega⟩ ⟨by show 9 + 1 ≤ _; omega, by show 656 + 160 ≤ _; omega⟩) (fun h12 H locs hR hLo heq => ?_)
  refine x_pV hc hR hLo fl_T_35 (Or.inr ⟨rfl, rfl⟩) rfl rfl heq d_T_init_55 (fun h13 H locs hR hLo heq => ?_)
  refine lv_aload_n hx hb d_T_init_58 rfl (lv_at hl 0 rfl) ?_
  refine lv_aload_n hx hb d_T_init_59 rfl (lv_at hl 0 rfl) ?_
  refine x_gA hc hR fl_T_12 heq d_T_init_60 (fun v1 heq => ?_)
  refine x_pV hc hR hLo fl_T_38 (Or.inl rfl) rfl rfl heq d_T_init_63 (fun h14 H locs hR hLo heq => ?_)
  exact x_vret hc hR hLo ⟨by omega, by omega⟩ heq d_T_init_66
def rm_T_init : Room := { frames := 3, cells := 10, slots := 816, locals := 52 }
theorem rk_T_init : rm_Ok 10 816 3 52 rm_T_init := ⟨Nat.le_refl _, Nat.le_refl _, Nat.le_refl _, Nat.le_refl _⟩
def f_T_feed_b10 (h0 : Hs_t) : Rs_t := th_N 9 h0
def f_T_feed_b41 : Nat → Nat → Int32 → Int32 → Hs_t → Rs_t
  | 0, _, _, _, _ => none
  | n + 1, t0, x1, x3, h0 => if x3 < 0 then ((fd_A [0] 0 h0 t0).bind fun v3 => (fd_I [2] 3 h0 v3).bind fun v4 => re_I v4 h0) else ((fd_A [0] 0 h0 t0).bind fun v5 => (ck_T [2] h0 v5).bind fun _ => bd_V (f_Src_append v5 (((x1 : Int32).toUInt32 >>> (((8 * x3) : Int32).toUInt32 &&& Int32.toUInt32 31)).toInt32 &&& 255) h0) (fun h2 => (f_T_feed_b41 n) t0 x1 (x3 + (-1)) h2))
def f_T_feed (t0 : Nat) (x1 : Int32) (x2 : Int32) (h0 : Hs_t) : Rs_t := if x2 < 1 then (f_T_feed_b10 h0) else (if x2 ≤ 4 then ((fd_A [0] 0 h0 t0).bind fun v1 => (ck_T [2] h0 v1).bind fun _ => bd_I (f_Src_hasRoomFor v1 x2 h0) (fun v2 h1 => if v2 = 0 then (th_N 10 h1) else (f_T_feed_b41 fu_N t0 x1 (x2 - 1) h1))) else (f_T_feed_b10 h0))
set_option maxRecDepth 100000 in
set_option maxHeartbeats 4000000 in
theorem k_T_feed_b10 {p : Program} {l : Launch} {e : Env} {s : State} {m : MethodId} {args : Array Value} {below : List Frame} {meth : Method} {c : Code} {s0 : State} {A0 : Array Value} {G : Gx_t} {r : Outcome × Hs_t} {rm : Room} (hc : Cx_t p s m meth c s0 A0 l G y_T_feed b_T_feed 4 (some .int) []) (hrm : rm_Ok 1 6 6 81 rm) : ∀  (h0 : Hs_t) (H : Heap) (locs : List Loc) (ls : Array Slot), Rp_h G s0.heap h0 H → Lo_k s0 locs → lv_has ls 4 [] → f_T_feed_b10  h0 = some r → W p l e rm s m args below meth c H locs 0 0 (xq_MQ G s0 below r s rm.cells rm.slots) (F0 m 10 ls []) := by
  have hx := hc.x
  have hb := hc.b
  obtain ⟨hm1, hm2, hm3, hm4⟩ := id hrm
  intro  h0 H locs ls hR hLo hl heq
  unfold f_T_feed_b10 at heq
  exact x_thr (names := ["java/lang/RuntimeException", "java/lang/Exception"]) hc hR hLo rfl (by decide +kernel) (by decide +kernel) wd_210 wd_9 tha_T_42 hl.1 d_T_feed_10 d_T_feed_13 d_T_feed_14 d_T_feed_17 ⟨by omega, by omega⟩ (by show 2 + 3 < _; omega) (by show 0 + (13 * (2 + 1) + 42) ≤ _; omega) heq
set_option maxRecDepth 100000 in
set_option maxHeartbeats 4000000 in
theorem k_T_feed_b41 {p : Program} {l : Launch} {e : Env} {s : State} {m : MethodId} {args : Array Value} {below : List Frame} {meth : Method} {c : Code} {s0 : State} {A0 : Array Value} {G : Gx_t} {r : Outcome × Hs_t} {rm : Room} (hc : Cx_t p s m meth c s0 A0 l G y_T_feed b_T_feed 4 (some .int) []) (hrm : rm_Ok 1 6 6 81 rm) : ∀ (n : Nat) (t0 : Nat) (x1 : Int32) (x3 : Int32) (h0 : Hs_t) (H : Heap) (locs : List Loc) (ls : Array Slot), Rp_h G s0.heap h0 H → Lo_k s0 locs → lv_has ls 4 [(0, .ref t0), (1, .int x1), (3, .int x3)] → f_T_feed_b41 n t0 x1 x3 h0 = some r → W p l e rm s m args below meth c H locs 0 0 (xq_MQ G s0 below r s rm.cells rm.slots) (F0 m 41 ls []) := by
  have hx := hc.x
  have hb := hc.b
  obtain ⟨hm1, hm2, hm3, hm4⟩ := id hrm
  intro n
  induction n with
  | zero =>
    intro t0 x1 x3 h0 H locs ls hR hLo hl heq
    unfold f_T_feed_b41 at heq
    cases heq
  | succ n hr41 =>
    intro t0 x1 x3 h0 H locs ls hR hLo hl heq
    unfold f_T_feed_b41 at heq
    refine lv_iload_n hx hb d_T_feed_41 rfl (lv_at hl 2 rfl) ?_
    refine lv_if_lt (tgt := 68) hx hb d_T_feed_42 rfl (fun hq => ?_) (fun hq => ?_)
    · rw [if_pos hq] at heq
      refine lv_aload_n hx hb d_T_feed_68 rfl (lv_at hl 0 rfl) ?_
      refine x_gA hc hR fl_T_12 heq d_T_feed_69 (fun v3 heq => ?_)
      refine x_gI hc hR fl_T_55 heq d_T_feed_72 (fun v4 heq => ?_)
      exact x_iret hc hR hLo ⟨by omega, by omega⟩ heq d_T_feed_75
    · rw [if_neg hq] at heq
      refine lv_aload_n hx hb d_T_feed_45 rfl (lv_at hl 0 rfl) ?_
      refine x_gA hc hR fl_T_12 heq d_T_feed_46 (fun v5 heq => ?_)
      refine lv_iload_n hx hb d_T_feed_49 rfl (lv_at hl 1 rfl) ?_
      refine lv_bipush (v := 8) hx hb d_T_feed_50 (by decide) ?_
      refine lv_iload_n hx hb d_T_feed_52 rfl (lv_at hl 2 rfl) ?_
      refine lv_imul hx hb d_T_feed_53 ?_
      refine lv_iushr (v := ((x1 : Int32).toUInt32 >>> (((8 * x3) : Int32).toUInt32 &&& Int32.toUInt32 31)).toInt32) hx hb d_T_feed_54 rfl ?_
      refine lv_sipush (v := 255) hx hb d_T_feed_55 (by decide) ?_
      refine lv_iand hx hb d_T_feed_58 ?_
      refine x_ck heq (fun tt fs ha ht heq => ?_)
      obtain rfl : tt = 2 := by simpa using ht
      refine x_bV (mc := 0) (ms := 0) (st := []) hc hLo heq ⟨by omega, by omega⟩ (fun r9 h9 => x_runV hc (c_Src_append hc.g rm_Src_append rk_Src_append _ _ _ _ h9) md_Src_append hR ha rfl wd_293 wd_294 wd_295 hl.1 ml_Src_append rfl (Nat.le_of_ble_eq_true rfl) d_T_feed_59 ⟨by show 1 + 1 ≤ _; omega, by show 8 + (2 + 11) + (21) ≤ _; omega⟩ ⟨by show 0 + 0 ≤ _; omega, by show 0 + 0 ≤ _; omega⟩) (fun h2 H locs hR hLo heq => ?_)
      refine lv_iinc (k := 2) (v := (x3 + (-1))) (lv' := [(3, .int (x3 + (-1))), (0, .ref t0), (1, .int x1)]) hx hb d_T_feed_62 hl rfl rfl (by decide) rfl (fun ls hl => ?_)
      refine lv_goto (tgt := 41) hx hb d_T_feed_65 rfl ?_
      refine W.widen (k := 0) (n := 0) (by omega) (by omega) ?_
      exact hr41 t0 x1 (x3 + (-1)) h2 H locs ls hR hLo (lv_sub hl [1, 2, 0] rfl) heq
set_option maxRecDepth 100000 in
set_option maxHeartbeats 4000000 in
theorem c_T_feed {l : Launch} {s0 : State} {A0 : Array Value} {G : Gx_t} (hG : G_0 l s0 A0 G) (rm : Room) (hrm : rm_Ok 1 6 6 81 rm) (t0 : Nat) (x1 : Int32) (x2 : Int32) (h0 : Hs_t) (r : Outcome × Hs_t) (heq : f_T_feed t0 x1 x2 h0 = some r) : M_X G s0 l y_T_feed (.code y_T_feed b_T_feed 4 (some .int)) rm [.ref t0, .int x1, .int x2] h0 r := by
  refine M_X.of (by decide) hG (fun p e s m below meth c H hc hR => ?_)
  have hx := hc.x
  have hb := hc.b
  obtain ⟨hm1, hm2, hm3, hm4⟩ := id hrm
  have hLo : Lo_k s0 [] := fun _ hq => absurd hq List.not_mem_nil
  have hl := lv_entry ([.ref t0, .int x1, .int x2]) (n := 4) (Nat.le_of_ble_eq_true rfl)
  rw [lg_entry_eq]
  generalize (lg_sl ([.ref t0, .int x1, .int x2]) ++ List.replicate (4 - (lg_sl ([.ref t0, .int x1, .int x2])).length) Slot.unset).toArray = ls at hl ⊢
  have hl : lv_has ls 4 [(0, .ref t0), (1, .int x1), (2, .int x2)] := hl
  generalize hle : ([] : List Loc) = locs at hLo ⊢
  unfold f_T_feed at heq
  refine lv_iload_n hx hb d_T_feed_0 rfl (lv_at hl 2 rfl) ?_
  refine lv_iconst (v := 1) hx hb d_T_feed_1 (by decide) ?_
  refine lv_icmp_lt (tgt := 10) hx hb d_T_feed_2 rfl (fun hq => ?_) (fun hq => ?_)
  · rw [if_pos hq] at heq
    refine W.widen (k := 0) (n := 0) (by omega) (by omega) ?_
    exact k_T_feed_b10 hc hrm h0 H locs ls hR hLo (lv_sub hl [] rfl) heq
  · rw [if_neg hq] at heq
    refine lv_iload_n hx hb d_T_feed_5 rfl (lv_at hl 2 rfl) ?_
    refine lv_iconst (v := 4) hx hb d_T_feed_6 (by decide) ?_
    refine lv_icmp_le (tgt := 18) hx hb d_T_feed_7 rfl (fun hq => ?_) (fun hq => ?_)
    · rw [if_pos hq] at heq
      refine lv_aload_n hx hb d_T_feed_18 rfl (lv_at hl 0 rfl) ?_
      refine x_gA hc hR fl_T_12 heq d_T_feed_19 (fun v1 heq => ?_)
      refine lv_iload_n hx hb d_T_feed_22 rfl (lv_at hl 2 rfl) ?_
      refine x_ck heq (fun tt fs ha ht heq => ?_)
      obtain rfl : tt = 2 := by simpa using ht
      refine x_bI (mc := 0) (ms := 0) (st := []) hc hLo heq ⟨by omega, by omega⟩ (fun r9 h9 => x_runV hc (c_Src_hasRoomFor hc.g rm_Src_hasRoomFor rk_Src_hasRoomFor _ _ _ _ h9) md_Src_hasRoomFor hR ha rfl wd_274 wd_275 wd_276 hl.1 ml_Src_hasRoomFor rfl (Nat.le_of_ble_eq_true rfl) d_T_feed_23 ⟨by show 0 + 1 ≤ _; omega, by show 8 + (2 + 11) + (0) ≤ _; omega⟩ ⟨by show 0 + 0 ≤ _; omega, by show 0 + 0 ≤ _; omega⟩) (fun v2 h1 H locs hR hLo heq => ?_)
      refine lv_if_ne (tgt := 37) hx hb d_T_feed_26 rfl (fun hq => ?_) (fun hq => ?_)
      · rw [if_neg hq] at heq
        refine lv_iload_n hx hb d_T_feed_37 rfl (lv_at hl 2 rfl) ?_
        refine lv_iconst (v := 1) hx hb d_T_feed_38 (by decide) ?_
        refine lv_isub hx hb d_T_feed_39 ?_
        refine lv_istore_n (lv' := [(3, .int (x2 - 1)), (0, .ref t0), (1, .int x1), (2, .int x2)]) hx hb d_T_feed_40 rfl hl (by decide) rfl (fun ls hl => ?_)
        refine W.widen (k := 0) (n := 0) (by omega) (by omega) ?_
        exact k_T_feed_b41 hc hrm fu_N t0 x1 (x2 - 1) h1 H locs ls hR hLo (lv_sub hl [1, 2, 0] rfl) heq
      · rw [if_pos hq] at heq
        exact x_thr (names := ["java/lang/RuntimeException", "java/lang/Exception"]) hc hR hLo rfl (by decide +kernel) (by decide +kernel) wd_278 wd_10 tha_T_49 hl.1 d_T_feed_29 d_T_feed_32 d_T_feed_33 d_T_feed_36 ⟨by omega, by omega⟩ (by show 2 + 3 < _; omega) (by show 0 + (13 * (2 + 1) + 42) ≤ _; omega) heq
    · rw [if_neg hq] at heq
      refine W.widen (k := 0) (n := 0) (by omega) (by omega) ?_
      exact k_T_feed_b10 hc hrm h0 H locs ls hR hLo (lv_sub hl [] rfl) heq
def rm_T_feed : Room := { frames := 6, cells := 1, slots := 6, locals := 81 }
theorem rk_T_feed : rm_Ok 1 6 6 81 rm_T_feed := ⟨Nat.le_refl _, Nat.le_refl _, Nat.le_refl _, Nat.le_refl _⟩
def f_T_portion (t0 : Nat) (h0 : Hs_t) : Rs_t := (fd_A [0] 0 h0 t0).bind fun v1 => (ck_T [2] h0 v1).bind fun _ => bd_V (f_Src_startPortion v1 h0) (fun h1 => re_V h1)
set_option maxRecDepth 100000 in
set_option maxHeartbeats 4000000 in
theorem c_T_portion {l : Launch} {s0 : State} {A0 : Array Value} {G : Gx_t} (hG : G_0 l s0 A0 G) (rm : Room) (hrm : rm_Ok 0 0 1 20 rm) (t0 : Nat) (h0 : Hs_t) (r : Outcome × Hs_t) (heq : f_T_portion t0 h0 = some r) : M_X G s0 l y_T_portion (.code y_T_portion b_T_portion 1 none) rm [.ref t0] h0 r := by
  refine M_X.of (by decide) hG (fun p e s m below meth c H hc hR => ?_)
  have hx := hc.x
  have hb := hc.b
  obtain ⟨hm1, hm2, hm3, hm4⟩ := id hrm
  have hLo : Lo_k s0 [] := fun _ hq => absurd hq List.not_mem_nil
  have hl := lv_entry ([.ref t0]) (n := 1) (Nat.le_of_ble_eq_true rfl)
  rw [lg_entry_eq]
  generalize (lg_sl ([.ref t0]) ++ List.replicate (1 - (lg_sl ([.ref t0])).length) Slot.unset).toArray = ls at hl ⊢
  have hl : lv_has ls 1 [(0, .ref t0)] := hl
  generalize hle : ([] : List Loc) = locs at hLo ⊢
  unfold f_T_portion at heq
  refine lv_aload_n hx hb d_T_portion_0 rfl (lv_at hl 0 rfl) ?_
  refine x_gA hc hR fl_T_12 heq d_T_portion_1 (fun v1 heq => ?_)
  refine x_ck heq (fun tt fs ha ht heq => ?_)
  obtain rfl : tt = 2 := by simpa using ht
  refine x_bV (mc := 0) (ms := 0) (st := []) hc hLo heq ⟨by omega, by omega⟩ (fun r9 h9 => x_runV hc (c_Src_startPortion hc.g rm_Src_startPortion rk_Src_startPortion _ _ _ h9) md_Src_startPortion hR ha rfl wd_108 wd_109 wd_110 hl.1 ml_Src_startPortion rfl (Nat.le_of_ble_eq_true rfl) d_T_portion_4 ⟨by show 0 + 1 ≤ _; omega, by show 8 + (1 + 11) + (0) ≤ _; omega⟩ ⟨by show 0 + 0 ≤ _; omega, by show 0 + 0 ≤ _; omega⟩) (fun h1 H locs hR hLo heq => ?_)
  exact x_vret hc hR hLo ⟨by omega, by omega⟩ heq d_T_portion_7
def rm_T_portion : Room := { frames := 1, cells := 0, slots := 0, locals := 20 }
theorem rk_T_portion : rm_Ok 0 0 1 20 rm_T_portion := ⟨Nat.le_refl _, Nat.le_refl _, Nat.le_refl _, Nat.le_refl _⟩
def f_T_breakAt (t0 : Nat) (x1 : Int32) (h0 : Hs_t) : Rs_t := if x1 = (-1) then ((fd_A [0] 0 h0 t0).bind fun v3 => (ck_T [2] h0 v3).bind fun _ => bd_V (f_Src_mend v3 h0) (fun h2 => re_Z 1 h2)) else ((fd_A [0] 0 h0 t0).bind fun v1 => (ck_T [2] h0 v1).bind fun _ => bd_I (f_Src_breakPlace v1 x1 h0) (fun v2 h1 => re_Z v2 h1))
set_option maxRecDepth 100000 in
set_option maxHeartbeats 4000000 in
theorem c_T_breakAt {l : Launch} {s0 : State} {A0 : Array Value} {G : Gx_t} (hG : G_0 l s0 A0 G) (rm : Room) (hrm : rm_Ok 0 0 1 21 rm) (t0 : Nat) (x1 : Int32) (h0 : Hs_t) (r : Outcome × Hs_t) (heq : f_T_breakAt t0 x1 h0 = some r) : M_X G s0 l y_T_breakAt (.code y_T_breakAt b_T_breakAt 2 (some .boolean)) rm [.ref t0, .int x1] h0 r := by
  refine M_X.of (by decide) hG (fun p e s m below meth c H hc hR => ?_)
  have hx := hc.x
  have hb := hc.b
  obtain ⟨hm1, hm2, hm3, hm4⟩ := id hrm
  have hLo : Lo_k s0 [] := fun _ hq => absurd hq List.not_mem_nil
  have hl := lv_entry ([.ref t0, .int x1]) (n := 2) (Nat.le_of_ble_eq_true rfl)
  rw [lg_entry_eq]
  generalize (lg_sl ([.ref t0, .int x1]) ++ List.replicate (2 - (lg_sl ([.ref t0, .int x1])).length) Slot.unset).toArray = ls at hl ⊢
  have hl : lv_has ls 2 [(0, .ref t0), (1, .int x1)] := hl
  generalize hle : ([] : List Loc) = locs at hLo ⊢
  unfold f_T_breakAt at heq
  refine lv_iload_n hx hb d_T_breakAt_0 rfl (lv_at hl 1 rfl) ?_
  refine lv_iconst (v := (-1)) hx hb d_T_breakAt_1 (by decide) ?_
  refine lv_icmp_ne (tgt := 14) hx hb d_T_breakAt_2 rfl (fun hq => ?_) (fun hq => ?_)
  · rw [if_neg hq] at heq
    refine lv_aload_n hx hb d_T_breakAt_14 rfl (lv_at hl 0 rfl) ?_
    refine x_gA hc hR fl_T_12 heq d_T_breakAt_15 (fun v1 heq => ?_)
    refine lv_iload_n hx hb d_T_breakAt_18 rfl (lv_at hl 1 rfl) ?_
    refine x_ck heq (fun tt fs ha ht heq => ?_)
    obtain rfl : tt = 2 := by simpa using ht
    refine x_bI (mc := 0) (ms := 0) (st := []) hc hLo heq ⟨by omega, by omega⟩ (fun r9 h9 => x_runV hc (c_Src_breakPlace hc.g rm_Src_breakPlace rk_Src_breakPlace _ _ _ _ h9) md_Src_breakPlace hR ha rfl wd_120 wd_121 wd_122 hl.1 ml_Src_breakPlace rfl (Nat.le_of_ble_eq_true rfl) d_T_breakAt_19 ⟨by show 0 + 1 ≤ _; omega, by show 8 + (2 + 11) + (0) ≤ _; omega⟩ ⟨by show 0 + 0 ≤ _; omega, by show 0 + 0 ≤ _; omega⟩) (fun v2 h1 H locs hR hLo heq => ?_)
    exact x_zret hc hR hLo ⟨by omega, by omega⟩ heq d_T_breakAt_22
  · rw [if_pos hq] at heq
    refine lv_aload_n hx hb d_T_breakAt_5 rfl (lv_at hl 0 rfl) ?_
    refine x_gA hc hR fl_T_12 heq d_T_breakAt_6 (fun v3 heq => ?_)
    refine x_ck heq (fun tt fs ha ht heq => ?_)
    obtain rfl : tt = 2 := by simpa using ht
    refine x_bV (mc := 0) (ms := 0) (st := []) hc hLo heq ⟨by omega, by omega⟩ (fun r9 h9 => x_runV hc (c_Src_mend hc.g rm_Src_mend rk_Src_mend _ _ _ h9) md_Src_mend hR ha rfl wd_116 wd_117 wd_118 hl.1 ml_Src_mend rfl (Nat.le_of_ble_eq_true rfl) d_T_breakAt_9 ⟨by show 0 + 1 ≤ _; omega, by show 8 + (2 + 11) + (0) ≤ _; omega⟩ ⟨by show 0 + 0 ≤ _; omega, by show 0 + 0 ≤ _; omega⟩) (fun h2 H locs hR hLo heq => ?_)
    refine lv_iconst (v := 1) hx hb d_T_breakAt_12 (by decide) ?_
    exact x_zret hc hR hLo ⟨by omega, by omega⟩ heq d_T_breakAt_13
def rm_T_breakAt : Room := { frames := 1, cells := 0, slots := 0, locals := 21 }
theorem rk_T_breakAt : rm_Ok 0 0 1 21 rm_T_breakAt := ⟨Nat.le_refl _, Nat.le_refl _, Nat.le_refl _, Nat.le_refl _⟩
def f_T_isSizeOfKind_b113 (sv0 : Int32) (h0 : Hs_t) : Rs_t := re_Z sv0 h0
def f_T_isSizeOfKind_b103 (sv0 : Int32) (h0 : Hs_t) : Rs_t := re_Z sv0 h0
def f_T_isSizeOfKind_b102 (h0 : Hs_t) : Rs_t := f_T_isSizeOfKind_b103 0 h0
def f_T_isSizeOfKind_b86 (sv0 : Int32) (h0 : Hs_t) : Rs_t := re_Z sv0 h0
def f_T_isSizeOfKind_b85 (h0 : Hs_t) : Rs_t := f_T_isSizeOfKind_b86 0 h0
def f_T_isSizeOfKind_b69 (sv0 : Int32) (h0 : Hs_t) : Rs_t := re_Z sv0 h0
def f_T_isSizeOfKind_b68 (h0 : Hs_t) : Rs_t := f_T_isSizeOfKind_b69 0 h0
def f_T_isSizeOfKind_b52 (sv0 : Int32) (h0 : Hs_t) : Rs_t := re_Z sv0 h0
def f_T_isSizeOfKind_b51 (h0 : Hs_t) : Rs_t := f_T_isSizeOfKind_b52 0 h0
def f_T_isSizeOfKind (x0 : Int32) (x1 : Int32) (h0 : Hs_t) : Rs_t := if x0 = 1 then (if x1 < 1 then (f_T_isSizeOfKind_b51 h0) else (if 16 < x1 then (f_T_isSizeOfKind_b51 h0) else (f_T_isSizeOfKind_b52 1 h0))) else (if x0 = 2 then (if x1 < 1 then (f_T_isSizeOfKind_b68 h0) else (if 8 < x1 then (f_T_isSizeOfKind_b68 h0) else (f_T_isSizeOfKind_b69 1 h0))) else (if x0 = 3 then (if x1 < 0 then (f_T_isSizeOfKind_b85 h0) else (if 200 < x1 then (f_T_isSizeOfKind_b85 h0) else (f_T_isSizeOfKind_b86 1 h0))) else (if x0 = 4 then (if x1 < 0 then (f_T_isSizeOfKind_b102 h0) else (if 255 < x1 then (f_T_isSizeOfKind_b102 h0) else (f_T_isSizeOfKind_b103 1 h0))) else (if x0 = 5 then (if x1 = 0 then (f_T_isSizeOfKind_b113 1 h0) else (f_T_isSizeOfKind_b113 0 h0)) else (re_Z 0 h0)))))
set_option maxRecDepth 100000 in
set_option maxHeartbeats 4000000 in
theorem k_T_isSizeOfKind_b113 {p : Program} {l : Launch} {e : Env} {s : State} {m : MethodId} {args : Array Value} {below : List Frame} {meth : Method} {c : Code} {s0 : State} {A0 : Array Value} {G : Gx_t} {r : Outcome × Hs_t} {rm : Room} (hc : Cx_t p s m meth c s0 A0 l G y_T_isSizeOfKind b_T_isSizeOfKind 2 (some .boolean) []) (hrm : rm_Ok 0 0 0 0 rm) : ∀ (sv0 : Int32) (h0 : Hs_t) (H : Heap) (locs : List Loc) (ls : Array Slot), Rp_h G s0.heap h0 H → Lo_k s0 locs → lv_has ls 2 [] → f_T_isSizeOfKind_b113 sv0 h0 = some r → W p l e rm s m args below meth c H locs 0 0 (xq_MQ G s0 below r s rm.cells rm.slots) (F0 m 113 ls [.int sv0]) := by
  have hx := hc.x
  have hb := hc.b
  obtain ⟨hm1, hm2, hm3, hm4⟩ := id hrm
  intro sv0 h0 H locs ls hR hLo hl heq
  unfold f_T_isSizeOfKind_b113 at heq
  exact x_zret hc hR hLo ⟨by omega, by omega⟩ heq d_T_isSizeOfKind_113
set_option maxRecDepth 100000 in
set_option maxHeartbeats 4000000 in
theorem k_T_isSizeOfKind_b103 {p : Program} {l : Launch} {e : Env} {s : State} {m : MethodId} {args : Array Value} {below : List Frame} {meth : Method} {c : Code} {s0 : State} {A0 : Array Value} {G : Gx_t} {r : Outcome × Hs_t} {rm : Room} (hc : Cx_t p s m meth c s0 A0 l G y_T_isSizeOfKind b_T_isSizeOfKind 2 (some .boolean) []) (hrm : rm_Ok 0 0 0 0 rm) : ∀ (sv0 : Int32) (h0 : Hs_t) (H : Heap) (locs : List Loc) (ls : Array Slot), Rp_h G s0.heap h0 H → Lo_k s0 locs → lv_has ls 2 [] → f_T_isSizeOfKind_b103 sv0 h0 = some r → W p l e rm s m args below meth c H locs 0 0 (xq_MQ G s0 below r s rm.cells rm.slots) (F0 m 103 ls [.int sv0]) := by
  have hx := hc.x
  have hb := hc.b
  obtain ⟨hm1, hm2, hm3, hm4⟩ := id hrm
  intro sv0 h0 H locs ls hR hLo hl heq
  unfold f_T_isSizeOfKind_b103 at heq
  exact x_zret hc hR hLo ⟨by omega, by omega⟩ heq d_T_isSizeOfKind_103
set_option maxRecDepth 100000 in
set_option maxHeartbeats 4000000 in
theorem k_T_isSizeOfKind_b102 {p : Program} {l : Launch} {e : Env} {s : State} {m : MethodId} {args : Array Value} {below : List Frame} {meth : Method} {c : Code} {s0 : State} {A0 : Array Value} {G : Gx_t} {r : Outcome × Hs_t} {rm : Room} (hc : Cx_t p s m meth c s0 A0 l G y_T_isSizeOfKind b_T_isSizeOfKind 2 (some .boolean) []) (hrm : rm_Ok 0 0 0 0 rm) : ∀  (h0 : Hs_t) (H : Heap) (locs : List Loc) (ls : Array Slot), Rp_h G s0.heap h0 H → Lo_k s0 locs → lv_has ls 2 [] → f_T_isSizeOfKind_b102  h0 = some r → W p l e rm s m args below meth c H locs 0 0 (xq_MQ G s0 below r s rm.cells rm.slots) (F0 m 102 ls []) := by
  have hx := hc.x
  have hb := hc.b
  obtain ⟨hm1, hm2, hm3, hm4⟩ := id hrm
  intro  h0 H locs ls hR hLo hl heq
  unfold f_T_isSizeOfKind_b102 at heq
  refine lv_iconst (v := 0) hx hb d_T_isSizeOfKind_102 (by decide) ?_
  refine W.widen (k := 0) (n := 0) (by omega) (by omega) ?_
  exact k_T_isSizeOfKind_b103 hc hrm 0 h0 H locs ls hR hLo (lv_sub hl [] rfl) heq
set_option maxRecDepth 100000 in
set_option maxHeartbeats 4000000 in
theorem k_T_isSizeOfKind_b86 {p : Program} {l : Launch} {e : Env} {s : State} {m : MethodId} {args : Array Value} {below : List Frame} {meth : Method} {c : Code} {s0 : State} {A0 : Array Value} {G : Gx_t} {r : Outcome × Hs_t} {rm : Room} (hc : Cx_t p s m meth c s0 A0 l G y_T_isSizeOfKind b_T_isSizeOfKind 2 (some .boolean) []) (hrm : rm_Ok 0 0 0 0 rm) : ∀ (sv0 : Int32) (h0 : Hs_t) (H : Heap) (locs : List Loc) (ls : Array Slot), Rp_h G s0.heap h0 H → Lo_k s0 locs → lv_has ls 2 [] → f_T_isSizeOfKind_b86 sv0 h0 = some r → W p l e rm s m args below meth c H locs 0 0 (xq_MQ G s0 below r s rm.cells rm.slots) (F0 m 86 ls [.int sv0]) := by
  have hx := hc.x
  have hb := hc.b
  obtain ⟨hm1, hm2, hm3, hm4⟩ := id hrm
  intro sv0 h0 H locs ls hR hLo hl heq
  unfold f_T_isSizeOfKind_b86 at heq
  exact x_zret hc hR hLo ⟨by omega, by omega⟩ heq d_T_isSizeOfKind_86
set_option maxRecDepth 100000 in
set_option maxHeartbeats 4000000 in
theorem k_T_isSizeOfKind_b85 {p : Program} {l : Launch} {e : Env} {s : State} {m : MethodId} {args : Array Value} {below : List Frame} {meth : Method} {c : Code} {s0 : State} {A0 : Array Value} {G : Gx_t} {r : Outcome × Hs_t} {rm : Room} (hc : Cx_t p s m meth c s0 A0 l G y_T_isSizeOfKind b_T_isSizeOfKind 2 (some .boolean) []) (hrm : rm_Ok 0 0 0 0 rm) : ∀  (h0 : Hs_t) (H : Heap) (locs : List Loc) (ls : Array Slot), Rp_h G s0.heap h0 H → Lo_k s0 locs → lv_has ls 2 [] → f_T_isSizeOfKind_b85  h0 = some r → W p l e rm s m args below meth c H locs 0 0 (xq_MQ G s0 below r s rm.cells rm.slots) (F0 m 85 ls []) := by
  have hx := hc.x
  have hb := hc.b
  obtain ⟨hm1, hm2, hm3, hm4⟩ := id hrm
  intro  h0 H locs ls hR hLo hl heq
  unfold f_T_isSizeOfKind_b85 at heq
  refine lv_iconst (v := 0) hx hb d_T_isSizeOfKind_85 (by decide) ?_
  refine W.widen (k := 0) (n := 0) (by omega) (by omega) ?_
  exact k_T_isSizeOfKind_b86 hc hrm 0 h0 H locs ls hR hLo (lv_sub hl [] rfl) heq
set_option maxRecDepth 100000 in
set_option maxHeartbeats 4000000 in
theorem k_T_isSizeOfKind_b69 {p : Program} {l : Launch} {e : Env} {s : State} {m : MethodId} {args : Array Value} {below : List Frame} {meth : Method} {c : Code} {s0 : State} {A0 : Array Value} {G : Gx_t} {r : Outcome × Hs_t} {rm : Room} (hc : Cx_t p s m meth c s0 A0 l G y_T_isSizeOfKind b_T_isSizeOfKind 2 (some .boolean) []) (hrm : rm_Ok 0 0 0 0 rm) : ∀ (sv0 : Int32) (h0 : Hs_t) (H : Heap) (locs : List Loc) (ls : Array Slot), Rp_h G s0.heap h0 H → Lo_k s0 locs → lv_has ls 2 [] → f_T_isSizeOfKind_b69 sv0 h0 = some r → W p l e rm s m args below meth c H locs 0 0 (xq_MQ G s0 below r s rm.cells rm.slots) (F0 m 69 ls [.int sv0]) := by
  have hx := hc.x
  have hb := hc.b
  obtain ⟨hm1, hm2, hm3, hm4⟩ := id hrm
  intro sv0 h0 H locs ls hR hLo hl heq
  unfold f_T_isSizeOfKind_b69 at heq
  exact x_zret hc hR hLo ⟨by omega, by omega⟩ heq d_T_isSizeOfKind_69
set_option maxRecDepth 100000 in
set_option maxHeartbeats 4000000 in
theorem k_T_isSizeOfKind_b68 {p : Program} {l : Launch} {e : Env} {s : State} {m : MethodId} {args : Array Value} {below : List Frame} {meth : Method} {c : Code} {s0 : State} {A0 : Array Value} {G : Gx_t} {r : Outcome × Hs_t} {rm : Room} (hc : Cx_t p s m meth c s0 A0 l G y_T_isSizeOfKind b_T_isSizeOfKind 2 (some .boolean) []) (hrm : rm_Ok 0 0 0 0 rm) : ∀  (h0 : Hs_t) (H : Heap) (locs : List Loc) (ls : Array Slot), Rp_h G s0.heap h0 H → Lo_k s0 locs → lv_has ls 2 [] → f_T_isSizeOfKind_b68  h0 = some r → W p l e rm s m args below meth c H locs 0 0 (xq_MQ G s0 below r s rm.cells rm.slots) (F0 m 68 ls []) := by
  have hx := hc.x
  have hb := hc.b
  obtain ⟨hm1, hm2, hm3, hm4⟩ := id hrm
  intro  h0 H locs ls hR hLo hl heq
  unfold f_T_isSizeOfKind_b68 at heq
  refine lv_iconst (v := 0) hx hb d_T_isSizeOfKind_68 (by decide) ?_
  refine W.widen (k := 0) (n := 0) (by omega) (by omega) ?_
  exact k_T_isSizeOfKind_b69 hc hrm 0 h0 H locs ls hR hLo (lv_sub hl [] rfl) heq
set_option maxRecDepth 100000 in
set_option maxHeartbeats 4000000 in
theorem k_T_isSizeOfKind_b52 {p : Program} {l : Launch} {e : Env} {s : State} {m : MethodId} {args : Array Value} {below : List Frame} {meth : Method} {c : Code} {s0 : State} {A0 : Array Value} {G : Gx_t} {r : Outcome × Hs_t} {rm : Room} (hc : Cx_t p s m meth c s0 A0 l G y_T_isSizeOfKind b_T_isSizeOfKind 2 (some .boolean) []) (hrm : rm_Ok 0 0 0 0 rm) : ∀ (sv0 : Int32) (h0 : Hs_t) (H : Heap) (locs : List Loc) (ls : Array Slot), Rp_h G s0.heap h0 H → Lo_k s0 locs → lv_has ls 2 [] → f_T_isSizeOfKind_b52 sv0 h0 = some r → W p l e rm s m args below meth c H locs 0 0 (xq_MQ G s0 below r s rm.cells rm.slots) (F0 m 52 ls [.int sv0]) := by
  have hx := hc.x
  have hb := hc.b
  obtain ⟨hm1, hm2, hm3, hm4⟩ := id hrm
  intro sv0 h0 H locs ls hR hLo hl heq
  unfold f_T_isSizeOfKind_b52 at heq
  exact x_zret hc hR hLo ⟨by omega, by omega⟩ heq d_T_isSizeOfKind_52
set_option maxRecDepth 100000 in
set_option maxHeartbeats 4000000 in
theorem k_T_isSizeOfKind_b51 {p : Program} {l : Launch} {e : Env} {s : State} {m : MethodId} {args : Array Value} {below : List Frame} {meth : Method} {c : Code} {s0 : State} {A0 : Array Value} {G : Gx_t} {r : Outcome × Hs_t} {rm : Room} (hc : Cx_t p s m meth c s0 A0 l G y_T_isSizeOfKind b_T_isSizeOfKind 2 (some .boolean) []) (hrm : rm_Ok 0 0 0 0 rm) : ∀  (h0 : Hs_t) (H : Heap) (locs : List Loc) (ls : Array Slot), Rp_h G s0.heap h0 H → Lo_k s0 locs → lv_has ls 2 [] → f_T_isSizeOfKind_b51  h0 = some r → W p l e rm s m args below meth c H locs 0 0 (xq_MQ G s0 below r s rm.cells rm.slots) (F0 m 51 ls []) := by
  have hx := hc.x
  have hb := hc.b
  obtain ⟨hm1, hm2, hm3, hm4⟩ := id hrm
  intro  h0 H locs ls hR hLo hl heq
  unfold f_T_isSizeOfKind_b51 at heq
  refine lv_iconst (v := 0) hx hb d_T_isSizeOfKind_51 (by decide) ?_
  refine W.widen (k := 0) (n := 0) (by omega) (by omega) ?_
  exact k_T_isSizeOfKind_b52 hc hrm 0 h0 H locs ls hR hLo (lv_sub hl [] rfl) heq
set_option maxRecDepth 100000 in
set_option maxHeartbeats 4000000 in
theorem c_T_isSizeOfKind {l : Launch} {s0 : State} {A0 : Array Value} {G : Gx_t} (hG : G_0 l s0 A0 G) (rm : Room) (hrm : rm_Ok 0 0 0 0 rm) (x0 : Int32) (x1 : Int32) (h0 : Hs_t) (r : Outcome × Hs_t) (heq : f_T_isSizeOfKind x0 x1 h0 = some r) : M_X G s0 l y_T_isSizeOfKind (.code y_T_isSizeOfKind b_T_isSizeOfKind 2 (some .boolean)) rm [.int x0, .int x1] h0 r := by
  refine M_X.of (by decide) hG (fun p e s m below meth c H hc hR => ?_)
  have hx := hc.x
  have hb := hc.b
  obtain ⟨hm1, hm2, hm3, hm4⟩ := id hrm
  have hLo : Lo_k s0 [] := fun _ hq => absurd hq List.not_mem_nil
  have hl := lv_entry ([.int x0, .int x1]) (n := 2) (Nat.le_of_ble_eq_true rfl)
  rw [lg_entry_eq]
  generalize (lg_sl ([.int x0, .int x1]) ++ List.replicate (2 - (lg_sl ([.int x0, .int x1])).length) Slot.unset).toArray = ls at hl ⊢
  have hl : lv_has ls 2 [(0, .int x0), (1, .int x1)] := hl
  generalize hle : ([] : List Loc) = locs at hLo ⊢
  unfold f_T_isSizeOfKind at heq
  refine lv_iload_n hx hb d_T_isSizeOfKind_0 rfl (lv_at hl 0 rfl) ?_
  by_cases hk1 : x0 = 1
  · rw [if_pos hk1] at heq
    refine lv_tableIn (off := 35) (tgt := 36) hx hb d_T_isSizeOfKind_1 (by rw [hk1]; decide) (by rw [hk1]; decide) (by rw [hk1]; rfl) rfl ?_
    refine lv_iload_n hx hb d_T_isSizeOfKind_36 rfl (lv_at hl 1 rfl) ?_
    refine lv_iconst (v := 1) hx hb d_T_isSizeOfKind_37 (by decide) ?_
    refine lv_icmp_lt (tgt := 51) hx hb d_T_isSizeOfKind_38 rfl (fun hq => ?_) (fun hq => ?_)
    · rw [if_pos hq] at heq
      refine W.widen (k := 0) (n := 0) (by omega) (by omega) ?_
      exact k_T_isSizeOfKind_b51 hc hrm h0 H locs ls hR hLo (lv_sub hl [] rfl) heq
    · rw [if_neg hq] at heq
      refine lv_iload_n hx hb d_T_isSizeOfKind_41 rfl (lv_at hl 1 rfl) ?_
      refine lv_bipush (v := 16) hx hb d_T_isSizeOfKind_42 (by decide) ?_
      refine lv_icmp_gt (tgt := 51) hx hb d_T_isSizeOfKind_44 rfl (fun hq => ?_) (fun hq => ?_)
      · rw [if_pos hq] at heq
        refine W.widen (k := 0) (n := 0) (by omega) (by omega) ?_
        exact k_T_isSizeOfKind_b51 hc hrm h0 H locs ls hR hLo (lv_sub hl [] rfl) heq
      · rw [if_neg hq] at heq
        refine lv_iconst (v := 1) hx hb d_T_isSizeOfKind_47 (by decide) ?_
        refine lv_goto (tgt := 52) hx hb d_T_isSizeOfKind_48 rfl ?_
        refine W.widen (k := 0) (n := 0) (by omega) (by omega) ?_
        exact k_T_isSizeOfKind_b52 hc hrm 1 h0 H locs ls hR hLo (lv_sub hl [] rfl) heq
  rw [if_neg hk1] at heq
  by_cases hk2 : x0 = 2
  · rw [if_pos hk2] at heq
    refine lv_tableIn (off := 52) (tgt := 53) hx hb d_T_isSizeOfKind_1 (by rw [hk2]; decide) (by rw [hk2]; decide) (by rw [hk2]; rfl) rfl ?_
    refine lv_iload_n hx hb d_T_isSizeOfKind_53 rfl (lv_at hl 1 rfl) ?_
    refine lv_iconst (v := 1) hx hb d_T_isSizeOfKind_54 (by decide) ?_
    refine lv_icmp_lt (tgt := 68) hx hb d_T_isSizeOfKind_55 rfl (fun hq => ?_) (fun hq => ?_)
    · rw [if_pos hq] at heq
      refine W.widen (k := 0) (n := 0) (by omega) (by omega) ?_
      exact k_T_isSizeOfKind_b68 hc hrm h0 H locs ls hR hLo (lv_sub hl [] rfl) heq
    · rw [if_neg hq] at heq
      refine lv_iload_n hx hb d_T_isSizeOfKind_58 rfl (lv_at hl 1 rfl) ?_
      refine lv_bipush (v := 8) hx hb d_T_isSizeOfKind_59 (by decide) ?_
      refine lv_icmp_gt (tgt := 68) hx hb d_T_isSizeOfKind_61 rfl (fun hq => ?_) (fun hq => ?_)
      · rw [if_pos hq] at heq
        refine W.widen (k := 0) (n := 0) (by omega) (by omega) ?_
        exact k_T_isSizeOfKind_b68 hc hrm h0 H locs ls hR hLo (lv_sub hl [] rfl) heq
      · rw [if_neg hq] at heq
        refine lv_iconst (v := 1) hx hb d_T_isSizeOfKind_64 (by decide) ?_
        refine lv_goto (tgt := 69) hx hb d_T_isSizeOfKind_65 rfl ?_
        refine W.widen (k := 0) (n := 0) (by omega) (by omega) ?_
        exact k_T_isSizeOfKind_b69 hc hrm 1 h0 H locs ls hR hLo (lv_sub hl [] rfl) heq
  rw [if_neg hk2] at heq
  by_cases hk3 : x0 = 3
  · rw [if_pos hk3] at heq
    refine lv_tableIn (off := 69) (tgt := 70) hx hb d_T_isSizeOfKind_1 (by rw [hk3]; decide) (by rw [hk3]; decide) (by rw [hk3]; rfl) rfl ?_
    refine lv_iload_n hx hb d_T_isSizeOfKind_70 rfl (lv_at hl 1 rfl) ?_
    refine lv_if_lt (tgt := 85) hx hb d_T_isSizeOfKind_71 rfl (fun hq => ?_) (fun hq => ?_)
    · rw [if_pos hq] at heq
      refine W.widen (k := 0) (n := 0) (by omega) (by omega) ?_
      exact k_T_isSizeOfKind_b85 hc hrm h0 H locs ls hR hLo (lv_sub hl [] rfl) heq
    · rw [if_neg hq] at heq
      refine lv_iload_n hx hb d_T_isSizeOfKind_74 rfl (lv_at hl 1 rfl) ?_
      refine lv_sipush (v := 200) hx hb d_T_isSizeOfKind_75 (by decide) ?_
      refine lv_icmp_gt (tgt := 85) hx hb d_T_isSizeOfKind_78 rfl (fun hq => ?_) (fun hq => ?_)
      · rw [if_pos hq] at heq
        refine W.widen (k := 0) (n := 0) (by omega) (by omega) ?_
        exact k_T_isSizeOfKind_b85 hc hrm h0 H locs ls hR hLo (lv_sub hl [] rfl) heq
      · rw [if_neg hq] at heq
        refine lv_iconst (v := 1) hx hb d_T_isSizeOfKind_81 (by decide) ?_
        refine lv_goto (tgt := 86) hx hb d_T_isSizeOfKind_82 rfl ?_
        refine W.widen (k := 0) (n := 0) (by omega) (by omega) ?_
        exact k_T_isSizeOfKind_b86 hc hrm 1 h0 H locs ls hR hLo (lv_sub hl [] rfl) heq
  rw [if_neg hk3] at heq
  by_cases hk4 : x0 = 4
  · rw [if_pos hk4] at heq
    refine lv_tableIn (off := 86) (tgt := 87) hx hb d_T_isSizeOfKind_1 (by rw [hk4]; decide) (by rw [hk4]; decide) (by rw [hk4]; rfl) rfl ?_
    refine lv_iload_n hx hb d_T_isSizeOfKind_87 rfl (lv_at hl 1 rfl) ?_
    refine lv_if_lt (tgt := 102) hx hb d_T_isSizeOfKind_88 rfl (fun hq => ?_) (fun hq => ?_)
    · rw [if_pos hq] at heq
      refine W.widen (k := 0) (n := 0) (by omega) (by omega) ?_
      exact k_T_isSizeOfKind_b102 hc hrm h0 H locs ls hR hLo (lv_sub hl [] rfl) heq
    · rw [if_neg hq] at heq
      refine lv_iload_n hx hb d_T_isSizeOfKind_91 rfl (lv_at hl 1 rfl) ?_
      refine lv_sipush (v := 255) hx hb d_T_isSizeOfKind_92 (by decide) ?_
      refine lv_icmp_gt (tgt := 102) hx hb d_T_isSizeOfKind_95 rfl (fun hq => ?_) (fun hq => ?_)
      · rw [if_pos hq] at heq
        refine W.widen (k := 0) (n := 0) (by omega) (by omega) ?_
        exact k_T_isSizeOfKind_b102 hc hrm h0 H locs ls hR hLo (lv_sub hl [] rfl) heq
      · rw [if_neg hq] at heq
        refine lv_iconst (v := 1) hx hb d_T_isSizeOfKind_98 (by decide) ?_
        refine lv_goto (tgt := 103) hx hb d_T_isSizeOfKind_99 rfl ?_
        refine W.widen (k := 0) (n := 0) (by omega) (by omega) ?_
        exact k_T_isSizeOfKind_b103 hc hrm 1 h0 H locs ls hR hLo (lv_sub hl [] rfl) heq
  rw [if_neg hk4] at heq
  by_cases hk5 : x0 = 5
  · rw [if_pos hk5] at heq
    refine lv_tableIn (off := 103) (tgt := 104) hx hb d_T_isSizeOfKind_1 (by rw [hk5]; decide) (by rw [hk5]; decide) (by rw [hk5]; rfl) rfl ?_
    refine lv_iload_n hx hb d_T_isSizeOfKind_104 rfl (lv_at hl 1 rfl) ?_
    refine lv_if_ne (tgt := 112) hx hb d_T_isSizeOfKind_105 rfl (fun hq => ?_) (fun hq => ?_)
    · rw [if_neg hq] at heq
      refine lv_iconst (v := 0) hx hb d_T_isSizeOfKind_112 (by decide) ?_
      refine W.widen (k := 0) (n := 0) (by omega) (by omega) ?_
      exact k_T_isSizeOfKind_b113 hc hrm 0 h0 H locs ls hR hLo (lv_sub hl [] rfl) heq
    · rw [if_pos hq] at heq
      refine lv_iconst (v := 1) hx hb d_T_isSizeOfKind_108 (by decide) ?_
      refine lv_goto (tgt := 113) hx hb d_T_isSizeOfKind_109 rfl ?_
      refine W.widen (k := 0) (n := 0) (by omega) (by omega) ?_
      exact k_T_isSizeOfKind_b113 hc hrm 1 h0 H locs ls hR hLo (lv_sub hl [] rfl) heq
  rw [if_neg hk5] at heq
  have hko : (x0 : Int32).toInt < 1 ∨ 5 < (x0 : Int32).toInt := by
    have z1 := lv_neT (a := 1) hk1 (by decide)
    have z2 := lv_neT (a := 2) hk2 (by decide)
    have z3 := lv_neT (a := 3) hk3 (by decide)
    have z4 := lv_neT (a := 4) hk4 (by decide)
    have z5 := lv_neT (a := 5) hk5 (by decide)
    omega
  refine lv_tableOut (tgt := 114) hx hb d_T_isSizeOfKind_1 hko rfl ?_
  refine lv_iconst (v := 0) hx hb d_T_isSizeOfKind_114 (by decide) ?_
  exact x_zret hc hR hLo ⟨by omega, by omega⟩ heq d_T_isSizeOfKind_115
def rm_T_isSizeOfKind : Room := { frames := 0, cells := 0, slots := 0, locals := 0 }
theorem rk_T_isSizeOfKind : rm_Ok 0 0 0 0 rm_T_isSizeOfKind := ⟨Nat.le_refl _, Nat.le_refl _, Nat.le_refl _, Nat.le_refl _⟩
def f_T_layerOver (x0 : Nat) (x1 : Int32) (x2 : Int32) (h0 : Hs_t) : Rs_t := if x1 = 1 then ((nw_O 3 [.null, .int 0, .null, .int 0, .int 0, .int 0, .int 0, .int 0] h0).bind fun h9 => bd_V (f_Buf_init h0.1 x0 x2 h9) (fun h10 => re_A h0.1 h10)) else (if x1 = 2 then ((nw_O 4 [.null, .null, .int 0] h0).bind fun h7 => bd_V (f_Psh_init h0.1 x0 x2 h7) (fun h8 => re_A h0.1 h8)) else (if x1 = 3 then ((nw_O 5 [.null, .int 0, .int 0] h0).bind fun h5 => bd_V (f_Lim_init h0.1 x0 x2 h5) (fun h6 => re_A h0.1 h6)) else (if x1 = 4 then ((nw_O 6 [.null, .int 0, .int 0, .int 0] h0).bind fun h3 => bd_V (f_Cod_init h0.1 x0 x2 h3) (fun h4 => re_A h0.1 h4)) else ((nw_O 7 [.null, .int 0, .int 0, .int 0, .int 0] h0).bind fun h1 => bd_V (f_Lin_init h0.1 x0 h1) (fun h2 => re_A h0.1 h2)))))
set_option maxRecDepth 100000 in
set_option maxHeartbeats 4000000 in
theorem c_T_layerOver {l : Launch} {s0 : State} {A0 : Array Value} {G : Gx_t} (hG : G_0 l s0 A0 G) (rm : Room) (hrm : rm_Ok 2 56 4 75 rm) (x0 : Nat) (x1 : Int32) (x2 : Int32) (h0 : Hs_t) (r : Outcome × Hs_t) (heq : f_T_layerOver x0 x1 x2 h0 = some r) : M_X G s0 l y_T_layerOver (.code y_T_layerOver b_T_layerOver 3 (some (.object "StreamTower$Stream"))) rm [.ref x0, .int x1, .int x2] h0 r := by
  refine M_X.of (by decide) hG (fun p e s m below meth c H hc hR => ?_)
  have hx := hc.x
  have hb := hc.b
  obtain ⟨hm1, hm2, hm3, hm4⟩ := id hrm
  have hLo : Lo_k s0 [] := fun _ hq => absurd hq List.not_mem_nil
  have hl := lv_entry ([.ref x0, .int x1, .int x2]) (n := 3) (Nat.le_of_ble_eq_true rfl)
  rw [lg_entry_eq]
  generalize (lg_sl ([.ref x0, .int x1, .int x2]) ++ List.replicate (3 - (lg_sl ([.ref x0, .int x1, .int x2])).length) Slot.unset).toArray = ls at hl ⊢
  have hl : lv_has ls 3 [(0, .ref x0), (1, .int x1), (2, .int x2)] := hl
  generalize hle : ([] : List Loc) = locs at hLo ⊢
  unfold f_T_layerOver at heq
  refine lv_iload_n hx hb d_T_layerOver_0 rfl (lv_at hl 1 rfl) ?_
  by_cases hk1 : x1 = 1
  · rw [if_pos hk1] at heq
    refine lv_tableIn (off := 31) (tgt := 32) hx hb d_T_layerOver_1 (by rw [hk1]; decide) (by rw [hk1]; decide) (by rw [hk1]; rfl) rfl ?_
    refine x_new hc hR nw_T_157 ⟨by omega, by omega⟩ heq d_T_layerOver_32 (fun h11 H hR heq => ?_)
    refine lv_dup hx hb d_T_layerOver_35 rfl ?_
    refine lv_aload_n hx hb d_T_layerOver_36 rfl (lv_at hl 0 rfl) ?_
    refine lv_iload_n hx hb d_T_layerOver_37 rfl (lv_at hl 2 rfl) ?_
    refine x_bV (mc := 1) (ms := 48) (st := [.ref h0.1]) hc hLo heq ⟨by omega, by omega⟩ (fun r9 h9 => x_runI hc (c_Buf_init hc.g rm_Buf_init rk_Buf_init _ _ _ _ _ h9) md_Buf_init hR wd_313 wd_314 rfl ⟨_, rfl⟩ hl.1 ml_Buf_init rfl (Nat.le_of_ble_eq_true rfl) d_T_layerOver_38 ⟨by show 2 + 1 ≤ _; omega, by show 8 + (3 + 11) + (32) ≤ _; omega⟩ ⟨by show 1 + 1 ≤ _; omega, by show 8 + 48 ≤ _; omega⟩) (fun h12 H locs hR hLo heq => ?_)
    exact x_aret hc hR hLo ⟨by omega, by omega⟩ heq d_T_layerOver_41
  rw [if_neg hk1] at heq
  by_cases hk2 : x1 = 2
  · rw [if_pos hk2] at heq
    refine lv_tableIn (off := 41) (tgt := 42) hx hb d_T_layerOver_1 (by rw [hk2]; decide) (by rw [hk2]; decide) (by rw [hk2]; rfl) rfl ?_
    refine x_new hc hR nw_T_140 ⟨by omega, by omega⟩ heq d_T_layerOver_42 (fun h13 H hR heq => ?_)
    refine lv_dup hx hb d_T_layerOver_45 rfl ?_
    refine lv_aload_n hx hb d_T_layerOver_46 rfl (lv_at hl 0 rfl) ?_
    refine lv_iload_n hx hb d_T_layerOver_47 rfl (lv_at hl 2 rfl) ?_
    refine x_bV (mc := 1) (ms := 8) (st := [.ref h0.1]) hc hLo heq ⟨by omega, by omega⟩ (fun r9 h9 => x_runI hc (c_Psh_init hc.g rm_Psh_init rk_Psh_init _ _ _ _ _ h9) md_Psh_init hR wd_344 wd_345 rfl ⟨_, rfl⟩ hl.1 ml_Psh_init rfl (Nat.le_of_ble_eq_true rfl) d_T_layerOver_48 ⟨by show 2 + 1 ≤ _; omega, by show 8 + (3 + 11) + (32) ≤ _; omega⟩ ⟨by show 1 + 1 ≤ _; omega, by show 3 + 8 ≤ _; omega⟩) (fun h14 H locs hR hLo heq => ?_)
    exact x_aret hc hR hLo ⟨by omega, by omega⟩ heq d_T_layerOver_51
  rw [if_neg hk2] at heq
  by_cases hk3 : x1 = 3
  · rw [if_pos hk3] at heq
    refine lv_tableIn (off := 51) (tgt := 52) hx hb d_T_layerOver_1 (by rw [hk3]; decide) (by rw [hk3]; decide) (by rw [hk3]; rfl) rfl ?_
    refine x_new hc hR nw_T_163 ⟨by omega, by omega⟩ heq d_T_layerOver_52 (fun h15 H hR heq => ?_)
    refine lv_dup hx hb d_T_layerOver_55 rfl ?_
    refine lv_aload_n hx hb d_T_layerOver_56 rfl (lv_at hl 0 rfl) ?_
    refine lv_iload_n hx hb d_T_layerOver_57 rfl (lv_at hl 2 rfl) ?_
    refine x_bV (mc := 0) (ms := 0) (st := [.ref h0.1]) hc hLo heq ⟨by omega, by omega⟩ (fun r9 h9 => x_runI hc (c_Lim_init hc.g rm_Lim_init rk_Lim_init _ _ _ _ _ h9) md_Lim_init hR wd_360 wd_361 rfl ⟨_, rfl⟩ hl.1 ml_Lim_init rfl (Nat.le_of_ble_eq_true rfl) d_T_layerOver_58 ⟨by show 3 + 1 ≤ _; omega, by show 8 + (3 + 11) + (53) ≤ _; omega⟩ ⟨by show 1 + 0 ≤ _; omega, by show 3 + 0 ≤ _; omega⟩) (fun h16 H locs hR hLo heq => ?_)
    exact x_aret hc hR hLo ⟨by omega, by omega⟩ heq d_T_layerOver_61
  rw [if_neg hk3] at heq
  by_cases hk4 : x1 = 4
  · rw [if_pos hk4] at heq
    refine lv_tableIn (off := 61) (tgt := 62) hx hb d_T_layerOver_1 (by rw [hk4]; decide) (by rw [hk4]; decide) (by rw [hk4]; rfl) rfl ?_
    refine x_new hc hR nw_T_166 ⟨by omega, by omega⟩ heq d_T_layerOver_62 (fun h17 H hR heq => ?_)
    refine lv_dup hx hb d_T_layerOver_65 rfl ?_
    refine lv_aload_n hx hb d_T_layerOver_66 rfl (lv_at hl 0 rfl) ?_
    refine lv_iload_n hx hb d_T_layerOver_67 rfl (lv_at hl 2 rfl) ?_
    refine x_bV (mc := 0) (ms := 0) (st := [.ref h0.1]) hc hLo heq ⟨by omega, by omega⟩ (fun r9 h9 => x_runI hc (c_Cod_init hc.g rm_Cod_init rk_Cod_init _ _ _ _ _ h9) md_Cod_init hR wd_385 wd_386 rfl ⟨_, rfl⟩ hl.1 ml_Cod_init rfl (Nat.le_of_ble_eq_true rfl) d_T_layerOver_68 ⟨by show 3 + 1 ≤ _; omega, by show 8 + (3 + 11) + (53) ≤ _; omega⟩ ⟨by show 1 + 0 ≤ _; omega, by show 4 + 0 ≤ _; omega⟩) (fun h18 H locs hR hLo heq => ?_)
    exact x_aret hc hR hLo ⟨by omega, by omega⟩ heq d_T_layerOver_71
  rw [if_neg hk4] at heq
  have hko : (x1 : Int32).toInt < 1 ∨ 4 < (x1 : Int32).toInt := by
    have z1 := lv_neT (a := 1) hk1 (by decide)
    have z2 := lv_neT (a := 2) hk2 (by decide)
    have z3 := lv_neT (a := 3) hk3 (by decide)
    have z4 := lv_neT (a := 4) hk4 (by decide)
    omega
  refine lv_tableOut (tgt := 72) hx hb d_T_layerOver_1 hko rfl ?_
  refine x_new hc hR nw_T_169 ⟨by omega, by omega⟩ heq d_T_layerOver_72 (fun h1 H hR heq => ?_)
  refine lv_dup hx hb d_T_layerOver_75 rfl ?_
  refine lv_aload_n hx hb d_T_layerOver_76 rfl (lv_at hl 0 rfl) ?_
  refine x_bV (mc := 0) (ms := 0) (st := [.ref h0.1]) hc hLo heq ⟨by omega, by omega⟩ (fun r9 h9 => x_runI hc (c_Lin_init hc.g rm_Lin_init rk_Lin_init _ _ _ _ h9) md_Lin_init hR wd_402 wd_403 rfl ⟨_, rfl⟩ hl.1 ml_Lin_init rfl (Nat.le_of_ble_eq_true rfl) d_T_layerOver_77 ⟨by show 3 + 1 ≤ _; omega, by show 8 + (2 + 11) + (53) ≤ _; omega⟩ ⟨by show 1 + 0 ≤ _; omega, by show 5 + 0 ≤ _; omega⟩) (fun h2 H locs hR hLo heq => ?_)
  exact x_aret hc hR hLo ⟨by omega, by omega⟩ heq d_T_layerOver_80
def rm_T_layerOver : Room := { frames := 4, cells := 2, slots := 56, locals := 75 }
theorem rk_T_layerOver : rm_Ok 2 56 4 75 rm_T_layerOver := ⟨Nat.le_refl _, Nat.le_refl _, Nat.le_refl _, Nat.le_refl _⟩
def f_T_push_b31 (h0 : Hs_t) : Rs_t := th_N 10 h0
def f_T_push (t0 : Nat) (x1 : Int32) (x2 : Int32) (h0 : Hs_t) : Rs_t := bd_I (f_T_isSizeOfKind x1 x2 h0) (fun v1 h1 => if v1 = 0 then (th_N 9 h1) else ((fd_I [0] 7 h1 t0).bind fun v2 => if v2 = 0 then ((fd_I [0] 6 h1 t0).bind fun v3 => if v3 < 5 then ((fd_A [0] 5 h1 t0).bind fun v4 => bd_A (f_T_layerOver v4 x1 x2 h1) (fun v5 h2 => (pt_V [0] 5 h2 t0 (.ref v5)).bind fun h3 => (fd_A [0] 1 h3 t0).bind fun v6 => (fd_I [0] 6 h3 t0).bind fun v7 => (fd_A [0] 5 h3 t0).bind fun v8 => (as_R [2, 3, 4, 5, 6, 7] h3 v6 v7 v8).bind fun h4 => (fd_I [0] 6 h4 t0).bind fun v9 => (pt_V [0] 6 h4 t0 (.int (v9 + 1))).bind fun h5 => (fd_I [0] 6 h5 t0).bind fun v10 => re_I (v10 - 1) h5)) else (f_T_push_b31 h1)) else (f_T_push_b31 h1)))
set_option maxRecDepth 100000 in
set_option maxHeartbeats 4000000 in
theorem k_T_push_b31 {p : Program} {l : Launch} {e : Env} {s : State} {m : MethodId} {args : Array Value} {below : List Frame} {meth : Method} {c : Code} {s0 : State} {A0 : Array Value} {G : Gx_t} {r : Outcome × Hs_t} {rm : Room} (hc : Cx_t p s m meth c s0 A0 l G y_T_push b_T_push 3 (some .int) []) (hrm : rm_Ok 2 56 6 97 rm) : ∀  (h0 : Hs_t) (H : Heap) (locs : List Loc) (ls : Array Slot), Rp_h G s0.heap h0 H → Lo_k s0 locs → lv_has ls 3 [] → f_T_push_b31  h0 = some r → W p l e rm s m args below meth c H locs 0 0 (xq_MQ G s0 below r s rm.cells rm.slots) (F0 m 31 ls []) := by
  have hx := hc.x
  have hb := hc.b
  obtain ⟨hm1, hm2, hm3, hm4⟩ := id hrm
  intro  h0 H locs ls hR hLo hl heq
  unfold f_T_push_b31 at heq
  exact x_thr (names := ["java/lang/RuntimeException", "java/lang/Exception"]) hc hR hLo rfl (by decide +kernel) (by decide +kernel) wd_278 wd_10 tha_T_49 hl.1 d_T_push_31 d_T_push_34 d_T_push_35 d_T_push_38 ⟨by omega, by omega⟩ (by show 2 + 3 < _; omega) (by show 0 + (13 * (2 + 1) + 42) ≤ _; omega) heq
set_option maxRecDepth 100000 in
set_option maxHeartbeats 4000000 in
theorem c_T_push {l : Launch} {s0 : State} {A0 : Array Value} {G : Gx_t} (hG : G_0 l s0 A0 G) (rm : Room) (hrm : rm_Ok 2 56 6 97 rm) (t0 : Nat) (x1 : Int32) (x2 : Int32) (h0 : Hs_t) (r : Outcome × Hs_t) (heq : f_T_push t0 x1 x2 h0 = some r) : M_X G s0 l y_T_push (.code y_T_push b_T_push 3 (some .int)) rm [.ref t0, .int x1, .int x2] h0 r := by
  refine M_X.of (by decide) hG (fun p e s m below meth c H hc hR => ?_)
  have hx := hc.x
  have hb := hc.b
  obtain ⟨hm1, hm2, hm3, hm4⟩ := id hrm
  have hLo : Lo_k s0 [] := fun _ hq => absurd hq List.not_mem_nil
  have hl := lv_entry ([.ref t0, .int x1, .int x2]) (n := 3) (Nat.le_of_ble_eq_true rfl)
  rw [lg_entry_eq]
  generalize (lg_sl ([.ref t0, .int x1, .int x2]) ++ List.replicate (3 - (lg_sl ([.ref t0, .int x1, .int x2])).length) Slot.unset).toArray = ls at hl ⊢
  have hl : lv_has ls 3 [(0, .ref t0), (1, .int x1), (2, .int x2)] := hl
  generalize hle : ([] : List Loc) = locs at hLo ⊢
  unfold f_T_push at heq
  refine lv_iload_n hx hb d_T_push_0 rfl (lv_at hl 1 rfl) ?_
  refine lv_iload_n hx hb d_T_push_1 rfl (lv_at hl 2 rfl) ?_
  refine x_bI (mc := 0) (ms := 0) (st := []) hc hLo heq ⟨by omega, by omega⟩ (fun r9 h9 => x_runS hc (c_T_isSizeOfKind hc.g rm_T_isSizeOfKind rk_T_isSizeOfKind _ _ _ _ h9) md_T_isSizeOfKind hR wd_305 wd_306 hl.1 ml_T_isSizeOfKind rfl (Nat.le_of_ble_eq_true rfl) d_T_push_2 ⟨by show 0 + 1 ≤ _; omega, by show 8 + (2 + 11) + (0) ≤ _; omega⟩ ⟨by show 0 + 0 ≤ _; omega, by show 0 + 0 ≤ _; omega⟩) (fun v1 h1 H locs hR hLo heq => ?_)
  refine lv_if_ne (tgt := 16) hx hb d_T_push_5 rfl (fun hq => ?_) (fun hq => ?_)
  · rw [if_neg hq] at heq
    refine lv_aload_n hx hb d_T_push_16 rfl (lv_at hl 0 rfl) ?_
    refine x_gI hc hR fl_T_72 heq d_T_push_17 (fun v2 heq => ?_)
    refine lv_if_ne (tgt := 31) hx hb d_T_push_20 rfl (fun hq => ?_) (fun hq => ?_)
    · rw [if_neg hq] at heq
      refine W.widen (k := 0) (n := 0) (by omega) (by omega) ?_
      exact k_T_push_b31 hc hrm h1 H locs ls hR hLo (lv_sub hl [] rfl) heq
    · rw [if_pos hq] at heq
      refine lv_aload_n hx hb d_T_push_23 rfl (lv_at hl 0 rfl) ?_
      refine x_gI hc hR fl_T_76 heq d_T_push_24 (fun v3 heq => ?_)
      refine lv_iconst (v := 5) hx hb d_T_push_27 (by decide) ?_
      refine lv_icmp_lt (tgt := 39) hx hb d_T_push_28 rfl (fun hq => ?_) (fun hq => ?_)
      · rw [if_pos hq] at heq
        refine lv_aload_n hx hb d_T_push_39 rfl (lv_at hl 0 rfl) ?_
        refine lv_aload_n hx hb d_T_push_40 rfl (lv_at hl 0 rfl) ?_
        refine x_gA hc hR fl_T_38 heq d_T_push_41 (fun v4 heq => ?_)
        refine lv_iload_n hx hb d_T_push_44 rfl (lv_at hl 1 rfl) ?_
        refine lv_iload_n hx hb d_T_push_45 rfl (lv_at hl 2 rfl) ?_
        refine x_bA (mc := 2) (ms := 56) (st := [.ref t0]) hc hLo heq ⟨by omega, by omega⟩ (fun r9 h9 => x_runS hc (c_T_layerOver hc.g rm_T_layerOver rk_T_layerOver _ _ _ _ _ h9) md_T_layerOver hR wd_308 wd_309 hl.1 ml_T_layerOver rfl (Nat.le_of_ble_eq_true rfl) d_T_push_46 ⟨by show 4 + 1 ≤ _; omega, by show 8 + (3 + 11) + (75) ≤ _; omega⟩ ⟨by show 0 + 2 ≤ _; omega, by show 0 + 56 ≤ _; omega⟩) (fun v5 h2 H locs hR hLo heq => ?_)
        refine x_pV hc hR hLo fl_T_38 (Or.inl rfl) rfl rfl heq d_T_push_49 (fun h3 H locs hR hLo heq => ?_)
        refine lv_aload_n hx hb d_T_push_52 rfl (lv_at hl 0 rfl) ?_
        refine x_gA hc hR fl_T_18 heq d_T_push_53 (fun v6 heq => ?_)
        refine lv_aload_n hx hb d_T_push_56 rfl (lv_at hl 0 rfl) ?_
        refine x_gI hc hR fl_T_76 heq d_T_push_57 (fun v7 heq => ?_)
        refine lv_aload_n hx hb d_T_push_60 rfl (lv_at hl 0 rfl) ?_
        refine x_gA hc hR fl_T_38 heq d_T_push_61 (fun v8 heq => ?_)
        refine x_sR hc hR hLo el_Ok heq d_T_push_64 (fun h4 H locs hR hLo heq => ?_)
        refine lv_aload_n hx hb d_T_push_65 rfl (lv_at hl 0 rfl) ?_
        refine lv_dup hx hb d_T_push_66 rfl ?_
        refine x_gI hc hR fl_T_76 heq d_T_push_67 (fun v9 heq => ?_)
        refine lv_iconst (v := 1) hx hb d_T_push_70 (by decide) ?_
        refine lv_iadd hx hb d_T_push_71 ?_
        refine x_pV hc hR hLo fl_T_76 (Or.inl rfl) rfl rfl heq d_T_push_72 (fun h5 H locs hR hLo heq => ?_)
        refine lv_aload_n hx hb d_T_push_75 rfl (lv_at hl 0 rfl) ?_
        refine x_gI hc hR fl_T_76 heq d_T_push_76 (fun v10 heq => ?_)
        refine lv_iconst (v := 1) hx hb d_T_push_79 (by decide) ?_
        refine lv_isub hx hb d_T_push_80 ?_
        exact x_iret hc hR hLo ⟨by omega, by omega⟩ heq d_T_push_81
      · rw [if_neg hq] at heq
        refine W.widen (k := 0) (n := 0) (by omega) (by omega) ?_
        exact k_T_push_b31 hc hrm h1 H locs ls hR hLo (lv_sub hl [] rfl) heq
  · rw [if_pos hq] at heq
    exact x_thr (names := ["java/lang/RuntimeException", "java/lang/Exception"]) hc hR hLo rfl (by decide +kernel) (by decide +kernel) wd_210 wd_9 tha_T_42 hl.1 d_T_push_8 d_T_push_11 d_T_push_12 d_T_push_15 ⟨by omega, by omega⟩ (by show 2 + 3 < _; omega) (by show 0 + (13 * (2 + 1) + 42) ≤ _; omega) heq
def rm_T_push : Room := { frames := 6, cells := 2, slots := 56, locals := 97 }
theorem rk_T_push : rm_Ok 2 56 6 97 rm_T_push := ⟨Nat.le_refl _, Nat.le_refl _, Nat.le_refl _, Nat.le_refl _⟩
def f_T_refuseWhenClosed (t0 : Nat) (h0 : Hs_t) : Rs_t := (fd_I [0] 7 h0 t0).bind fun v1 => if v1 = 0 then (re_V h0) else (th_N 10 h0)
set_option maxRecDepth 100000 in
set_option maxHeartbeats 4000000 in
theorem c_T_refuseWhenClosed {l : Launch} {s0 : State} {A0 : Array Value} {G : Gx_t} (hG : G_0 l s0 A0 G) (rm : Room) (hrm : rm_Ok 1 6 6 81 rm) (t0 : Nat) (h0 : Hs_t) (r : Outcome × Hs_t) (heq : f_T_refuseWhenClosed t0 h0 = some r) : M_X G s0 l y_T_refuseWhenClosed (.code y_T_refuseWhenClosed b_T_refuseWhenClosed 1 none) rm [.ref t0] h0 r := by
  refine M_X.of (by decide) hG (fun p e s m below meth c H hc hR => ?_)
  have hx := hc.x
  have hb := hc.b
  obtain ⟨hm1, hm2, hm3, hm4⟩ := id hrm
  have hLo : Lo_k s0 [] := fun _ hq => absurd hq List.not_mem_nil
  have hl := lv_entry ([.ref t0]) (n := 1) (Nat.le_of_ble_eq_true rfl)
  rw [lg_entry_eq]
  generalize (lg_sl ([.ref t0]) ++ List.replicate (1 - (lg_sl ([.ref t0])).length) Slot.unset).toArray = ls at hl ⊢
  have hl : lv_has ls 1 [(0, .ref t0)] := hl
  generalize hle : ([] : List Loc) = locs at hLo ⊢
  unfold f_T_refuseWhenClosed at heq
  refine lv_aload_n hx hb d_T_refuseWhenClosed_0 rfl (lv_at hl 0 rfl) ?_
  refine x_gI hc hR fl_T_72 heq d_T_refuseWhenClosed_1 (fun v1 heq => ?_)
  refine lv_if_eq (tgt := 15) hx hb d_T_refuseWhenClosed_4 rfl (fun hq => ?_) (fun hq => ?_)
  · rw [if_pos hq] at heq
    exact x_vret hc hR hLo ⟨by omega, by omega⟩ heq d_T_refuseWhenClosed_15
  · rw [if_neg hq] at heq
    exact x_thr (names := ["java/lang/RuntimeException", "java/lang/Exception"]) hc hR hLo rfl (by decide +kernel) (by decide +kernel) wd_278 wd_10 tha_T_49 hl.1 d_T_refuseWhenClosed_7 d_T_refuseWhenClosed_10 d_T_refuseWhenClosed_11 d_T_refuseWhenClosed_14 ⟨by omega, by omega⟩ (by show 2 + 3 < _; omega) (by show 0 + (13 * (2 + 1) + 42) ≤ _; omega) heq
def rm_T_refuseWhenClosed : Room := { frames := 6, cells := 1, slots := 6, locals := 81 }
theorem rk_T_refuseWhenClosed : rm_Ok 1 6 6 81 rm_T_refuseWhenClosed := ⟨Nat.le_refl _, Nat.le_refl _, Nat.le_refl _, Nat.le_refl _⟩
def f_T_startReading (t0 : Nat) (h0 : Hs_t) : Rs_t := (fd_A [0] 3 h0 t0).bind fun v1 => (ck_T [1] h0 v1).bind fun _ => bd_V (f_Row_clear v1 h0) (fun h1 => (ck_T [0] h1 t0).bind fun _ => bd_V (f_T_refuseWhenClosed t0 h1) (fun h2 => re_V h2))
set_option maxRecDepth 100000 in
set_option maxHeartbeats 4000000 in
theorem c_T_startReading {l : Launch} {s0 : State} {A0 : Array Value} {G : Gx_t} (hG : G_0 l s0 A0 G) (rm : Room) (hrm : rm_Ok 1 6 7 101 rm) (t0 : Nat) (h0 : Hs_t) (r : Outcome × Hs_t) (heq : f_T_startReading t0 h0 = some r) : M_X G s0 l y_T_startReading (.code y_T_startReading b_T_startReading 1 none) rm [.ref t0] h0 r := by
  refine M_X.of (by decide) hG (fun p e s m below meth c H hc hR => ?_)
  have hx := hc.x
  have hb := hc.b
  obtain ⟨hm1, hm2, hm3, hm4⟩ := id hrm
  have hLo : Lo_k s0 [] := fun _ hq => absurd hq List.not_mem_nil
  have hl := lv_entry ([.ref t0]) (n := 1) (Nat.le_of_ble_eq_true rfl)
  rw [lg_entry_eq]
  generalize (lg_sl ([.ref t0]) ++ List.replicate (1 - (lg_sl ([.ref t0])).length) Slot.unset).toArray = ls at hl ⊢
  have hl : lv_has ls 1 [(0, .ref t0)] := hl
  generalize hle : ([] : List Loc) = locs at hLo ⊢
  unfold f_T_startReading at heq
  refine lv_aload_n hx hb d_T_startReading_0 rfl (lv_at hl 0 rfl) ?_
  refine x_gA hc hR fl_T_31 heq d_T_startReading_1 (fun v1 heq => ?_)
  refine x_ck heq (fun tt fs ha ht heq => ?_)
  obtain rfl : tt = 1 := by simpa using ht
  refine x_bV (mc := 0) (ms := 0) (st := []) hc hLo heq ⟨by omega, by omega⟩ (fun r9 h9 => x_runV hc (c_Row_clear hc.g rm_Row_clear rk_Row_clear _ _ _ h9) md_Row_clear hR ha rfl wd_431 wd_432 wd_433 hl.1 ml_Row_clear rfl (Nat.le_of_ble_eq_true rfl) d_T_startReading_4 ⟨by show 0 + 1 ≤ _; omega, by show 8 + (1 + 11) + (0) ≤ _; omega⟩ ⟨by show 0 + 0 ≤ _; omega, by show 0 + 0 ≤ _; omega⟩) (fun h1 H locs hR hLo heq => ?_)
  refine lv_aload_n hx hb d_T_startReading_7 rfl (lv_at hl 0 rfl) ?_
  refine x_ck heq (fun tt fs ha ht heq => ?_)
  obtain rfl : tt = 0 := by simpa using ht
  refine x_bV (mc := 1) (ms := 6) (st := []) hc hLo heq ⟨by omega, by omega⟩ (fun r9 h9 => x_runV hc (c_T_refuseWhenClosed hc.g rm_T_refuseWhenClosed rk_T_refuseWhenClosed _ _ _ h9) md_T_refuseWhenClosed hR ha rfl wd_435 wd_437 sp_3 hl.1 ml_T_refuseWhenClosed rfl (Nat.le_of_ble_eq_true rfl) d_T_startReading_8 ⟨by show 6 + 1 ≤ _; omega, by show 8 + (1 + 11) + (81) ≤ _; omega⟩ ⟨by show 0 + 1 ≤ _; omega, by show 0 + 6 ≤ _; omega⟩) (fun h2 H locs hR hLo heq => ?_)
  exact x_vret hc hR hLo ⟨by omega, by omega⟩ heq d_T_startReading_11
def rm_T_startReading : Room := { frames := 7, cells := 1, slots := 6, locals := 101 }
theorem rk_T_startReading : rm_Ok 1 6 7 101 rm_T_startReading := ⟨Nat.le_refl _, Nat.le_refl _, Nat.le_refl _, Nat.le_refl _⟩
def f_T_request_b30 (x2 : Int32) (h0 : Hs_t) : Rs_t := re_I x2 h0
def f_T_request (t0 : Nat) (x1 : Int32) (h0 : Hs_t) : Rs_t := (fd_A [0] 5 h0 t0).bind fun v1 => (fd_A [0] 2 h0 t0).bind fun v2 => bd_I (v_answer dp_N v1 x1 v2 0 h0) (fun v3 h1 => if v3 = (-1) then (f_T_request_b30 v3 h1) else (if v3 = 0 then (f_T_request_b30 v3 h1) else ((fd_I [0] 8 h1 t0).bind fun v4 => if v4 = 0 then (f_T_request_b30 v3 h1) else ((pt_Z [0] 8 h1 t0 0).bind fun h2 => (fd_A [0] 2 h2 t0).bind fun v5 => (ar_I h2 v5 0).bind fun v6 => if v6 = 10 then (if v3 = 1 then ((fd_A [0] 5 h2 t0).bind fun v9 => (fd_A [0] 2 h2 t0).bind fun v10 => bd_I (v_answer dp_N v9 x1 v10 0 h2) (fun v11 h4 => re_I v11 h4)) else ((fd_A [0] 2 h2 t0).bind fun v7 => (fd_A [0] 2 h2 t0).bind fun v8 => (cp_I h2 v7 1 v8 0 (v3 - 1)).bind fun h3 => re_I (v3 - 1) h3)) else (re_I v3 h2)))))
set_option maxRecDepth 100000 in
set_option maxHeartbeats 4000000 in
theorem k_T_request_b30 {p : Program} {l : Launch} {e : Env} {s : State} {m : MethodId} {args : Array Value} {below : List Frame} {meth : Method} {c : Code} {s0 : State} {A0 : Array Value} {G : Gx_t} {r : Outcome × Hs_t} {rm : Room} (hc : Cx_t p s m meth c s0 A0 l G y_T_request b_T_request 3 (some .int) []) (hrm : rm_Ok 0 0 81 1629 rm) : ∀ (x2 : Int32) (h0 : Hs_t) (H : Heap) (locs : List Loc) (ls : Array Slot), Rp_h G s0.heap h0 H → Lo_k s0 locs → lv_has ls 3 [(2, .int x2)] → f_T_request_b30 x2 h0 = some r → W p l e rm s m args below meth c H locs 0 0 (xq_MQ G s0 below r s rm.cells rm.slots) (F0 m 30 ls []) := by
  have hx := hc.x
  have hb := hc.b
  obtain ⟨hm1, hm2, hm3, hm4⟩ := id hrm
  intro x2 h0 H locs ls hR hLo hl heq
  unfold f_T_request_b30 at heq
  refine lv_iload_n hx hb d_T_request_30 rfl (lv_at hl 0 rfl) ?_
  exact x_iret hc hR hLo ⟨by omega, by omega⟩ heq d_T_request_31
set_option maxRecDepth 100000 in
set_option maxHeartbeats 4000000 in
theorem c_T_request {l : Launch} {s0 : State} {A0 : Array Value} {G : Gx_t} (hG : G_0 l s0 A0 G) (rm : Room) (hrm : rm_Ok 0 0 81 1629 rm) (t0 : Nat) (x1 : Int32) (h0 : Hs_t) (r : Outcome × Hs_t) (heq : f_T_request t0 x1 h0 = some r) : M_X G s0 l y_T_request (.code y_T_request b_T_request 3 (some .int)) rm [.ref t0, .int x1] h0 r := by
  refine M_X.of (by decide) hG (fun p e s m below meth c H hc hR => ?_)
  have hx := hc.x
  have hb := hc.b
  obtain ⟨hm1, hm2, hm3, hm4⟩ := id hrm
  have hLo : Lo_k s0 [] := fun _ hq => absurd hq List.not_mem_nil
  have hl := lv_entry ([.ref t0, .int x1]) (n := 3) (Nat.le_of_ble_eq_true rfl)
  rw [lg_entry_eq]
  generalize (lg_sl ([.ref t0, .int x1]) ++ List.replicate (3 - (lg_sl ([.ref t0, .int x1])).length) Slot.unset).toArray = ls at hl ⊢
  have hl : lv_has ls 3 [(0, .ref t0), (1, .int x1)] := hl
  generalize hle : ([] : List Loc) = locs at hLo ⊢
  unfold f_T_request at heq
  refine lv_aload_n hx hb d_T_request_0 rfl (lv_at hl 0 rfl) ?_
  refine x_gA hc hR fl_T_38 heq d_T_request_1 (fun v1 heq => ?_)
  refine lv_iload_n hx hb d_T_request_4 rfl (lv_at hl 1 rfl) ?_
  refine lv_aload_n hx hb d_T_request_5 rfl (lv_at hl 0 rfl) ?_
  refine x_gA hc hR fl_T_22 heq d_T_request_6 (fun v2 heq => ?_)
  refine lv_iconst (v := 0) hx hb d_T_request_9 (by decide) ?_
  refine x_bI (mc := 0) (ms := 0) (st := []) hc hLo heq ⟨by omega, by omega⟩ (fun r9 h9 => x_runW hc (vk_answer hc.g dp_N _ _ _ _ _ _ h9) hR wd_443 wd_445 (Or.inl wd_444) (by decide) hl.1 xl_answer rfl (Nat.le_of_ble_eq_true rfl) d_T_request_10 ⟨by show 80 + 1 ≤ _; omega, by show 8 + (10 + 11) + (1600) ≤ _; omega⟩ ⟨by show 0 + 0 ≤ _; omega, by show 0 + 0 ≤ _; omega⟩) (fun v3 h1 H locs hR hLo heq => ?_)
  refine lv_istore_n (lv' := [(2, .int v3), (0, .ref t0), (1, .int x1)]) hx hb d_T_request_13 rfl hl (by decide) rfl (fun ls hl => ?_)
  refine lv_iload_n hx hb d_T_request_14 rfl (lv_at hl 0 rfl) ?_
  refine lv_iconst (v := (-1)) hx hb d_T_request_15 (by decide) ?_
  refine lv_icmp_eq (tgt := 30) hx hb d_T_request_16 rfl (fun hq => ?_) (fun hq => ?_)
  · rw [if_pos hq] at heq
    refine W.widen (k := 0) (n := 0) (by omega) (by omega) ?_
    exact k_T_request_b30 hc hrm v3 h1 H locs ls hR hLo (lv_sub hl [0] rfl) heq
  · rw [if_neg hq] at heq
    refine lv_iload_n hx hb d_T_request_19 rfl (lv_at hl 0 rfl) ?_
    refine lv_if_eq (tgt := 30) hx hb d_T_request_20 rfl (fun hq => ?_) (fun hq => ?_)
    · rw [if_pos hq] at heq
      refine W.widen (k := 0) (n := 0) (by omega) (by omega) ?_
      exact k_T_request_b30 hc hrm v3 h1 H locs ls hR hLo (lv_sub hl [0] rfl) heq
    · rw [if_neg hq] at heq
      refine lv_aload_n hx hb d_T_request_23 rfl (lv_at hl 1 rfl) ?_
      refine x_gI hc hR fl_T_112 heq d_T_request_24 (fun v4 heq => ?_)
      refine lv_if_ne (tgt := 32) hx hb d_T_request_27 rfl (fun hq => ?_) (fun hq => ?_)
      · rw [if_neg hq] at heq
        refine lv_aload_n hx hb d_T_request_32 rfl (lv_at hl 1 rfl) ?_
        refine lv_iconst (v := 0) hx hb d_T_request_33 (by decide) ?_
        refine x_pZ hc hR hLo fl_T_112 (Or.inl rfl) heq d_T_request_34 (fun h2 H locs hR hLo heq => ?_)
        refine lv_aload_n hx hb d_T_request_37 rfl (lv_at hl 1 rfl) ?_
        refine x_gA hc hR fl_T_22 heq d_T_request_38 (fun v5 heq => ?_)
        refine lv_iconst (v := 0) hx hb d_T_request_41 (by decide) ?_
        refine x_aI hc hR heq d_T_request_42 (fun v6 heq => ?_)
        refine lv_bipush (v := 10) hx hb d_T_request_43 (by decide) ?_
        refine lv_icmp_eq (tgt := 50) hx hb d_T_request_45 rfl (fun hq => ?_) (fun hq => ?_)
        · rw [if_pos hq] at heq
          refine lv_iload_n hx hb d_T_request_50 rfl (lv_at hl 0 rfl) ?_
          refine lv_iconst (v := 1) hx hb d_T_request_51 (by decide) ?_
          refine lv_icmp_ne (tgt := 69) hx hb d_T_request_52 rfl (fun hq => ?_) (fun hq => ?_)
          · rw [if_neg hq] at heq
            refine lv_aload_n hx hb d_T_request_69 rfl (lv_at hl 1 rfl) ?_
            refine x_gA hc hR fl_T_22 heq d_T_request_70 (fun v7 heq => ?_)
            refine lv_iconst (v := 1) hx hb d_T_request_73 (by decide) ?_
            refine lv_aload_n hx hb d_T_request_74 rfl (lv_at hl 1 rfl) ?_
            refine x_gA hc hR fl_T_22 heq d_T_request_75 (fun v8 heq => ?_)
            refine lv_iconst (v := 0) hx hb d_T_request_78 (by decide) ?_
            refine lv_iload_n hx hb d_T_request_79 rfl (lv_at hl 0 rfl) ?_
            refine lv_iconst (v := 1) hx hb d_T_request_80 (by decide) ?_
            refine lv_isub hx hb d_T_request_81 ?_
            refine x_cpI hc hR hLo hl.1 wd_489 wd_468 wd_467 wd_18 (by omega) (by show 0 + (nativeFrameWords "java/lang/System" "arraycopy" 5 + 11) ≤ _; have := cp_w; omega) heq d_T_request_82 (fun h3 H locs hR hLo heq => ?_)
            refine lv_iload_n hx hb d_T_request_85 rfl (lv_at hl 0 rfl) ?_
            refine lv_iconst (v := 1) hx hb d_T_request_86 (by decide) ?_
            refine lv_isub hx hb d_T_request_87 ?_
            exact x_iret hc hR hLo ⟨by omega, by omega⟩ heq d_T_request_88
          · rw [if_pos hq] at heq
            refine lv_aload_n hx hb d_T_request_55 rfl (lv_at hl 1 rfl) ?_
            refine x_gA hc hR fl_T_38 heq d_T_request_56 (fun v9 heq => ?_)
            refine lv_iload_n hx hb d_T_request_59 rfl (lv_at hl 2 rfl) ?_
            refine lv_aload_n hx hb d_T_request_60 rfl (lv_at hl 1 rfl) ?_
            refine x_gA hc hR fl_T_22 heq d_T_request_61 (fun v10 heq => ?_)
            refine lv_iconst (v := 0) hx hb d_T_request_64 (by decide) ?_
            refine x_bI (mc := 0) (ms := 0) (st := []) hc hLo heq ⟨by omega, by omega⟩ (fun r9 h9 => x_runW hc (vk_answer hc.g dp_N _ _ _ _ _ _ h9) hR wd_443 wd_445 (Or.inl wd_444) (by decide) hl.1 xl_answer rfl (Nat.le_of_ble_eq_true rfl) d_T_request_65 ⟨by show 80 + 1 ≤ _; omega, by show 8 + (10 + 11) + (1600) ≤ _; omega⟩ ⟨by show 0 + 0 ≤ _; omega, by show 0 + 0 ≤ _; omega⟩) (fun v11 h4 H locs hR hLo heq => ?_)
            exact x_iret hc hR hLo ⟨by omega, by omega⟩ heq d_T_request_68
        · rw [if_neg hq] at heq
          refine lv_iload_n hx hb d_T_request_48 rfl (lv_at hl 0 rfl) ?_
          exact x_iret hc hR hLo ⟨by omega, by omega⟩ heq d_T_request_49
      · rw [if_pos hq] at heq
        refine W.widen (k := 0) (n := 0) (by omega) (by omega) ?_
        exact k_T_request_b30 hc hrm v3 h1 H locs ls hR hLo (lv_sub hl [0] rfl) heq
def rm_T_request : Room := { frames := 81, cells := 0, slots := 0, locals := 1629 }
theorem rk_T_request : rm_Ok 0 0 81 1629 rm_T_request := ⟨Nat.le_refl _, Nat.le_refl _, Nat.le_refl _, Nat.le_refl _⟩
def f_T_read (t0 : Nat) (h0 : Hs_t) : Rs_t := (ck_T [0] h0 t0).bind fun _ => bd_V (f_T_startReading t0 h0) (fun h1 => (ck_T [0] h1 t0).bind fun _ => bd_I (f_T_request t0 1 h1) (fun v1 h2 => if v1 = (-1) then (th_N 10 h2) else ((fd_A [0] 3 h2 t0).bind fun v2 => (fd_A [0] 2 h2 t0).bind fun v3 => (ck_T [1] h2 v2).bind fun _ => bd_V (f_Row_addAll v2 v3 v1 h2) (fun h3 => (fd_A [0] 3 h3 t0).bind fun v4 => (ck_T [1] h3 v4).bind fun _ => bd_I (f_Row_get v4 0 h3) (fun v5 h4 => re_I v5 h4)))))
set_option maxRecDepth 100000 in
set_option maxHeartbeats 4000000 in
theorem c_T_read {l : Launch} {s0 : State} {A0 : Array Value} {G : Gx_t} (hG : G_0 l s0 A0 G) (rm : Room) (hrm : rm_Ok 2 12 82 1651 rm) (t0 : Nat) (h0 : Hs_t) (r : Outcome × Hs_t) (heq : f_T_read t0 h0 = some r) : M_X G s0 l y_T_read (.code y_T_read b_T_read 2 (some .int)) rm [.ref t0] h0 r := by
  refine M_X.of (by decide) hG (fun p e s m below meth c H hc hR => ?_)
  have hx := hc.x
  have hb := hc.b
  obtain ⟨hm1, hm2, hm3, hm4⟩ := id hrm
  have hLo : Lo_k s0 [] := fun _ hq => absurd hq List.not_mem_nil
  have hl := lv_entry ([.ref t0]) (n := 2) (Nat.le_of_ble_eq_true rfl)
  rw [lg_entry_eq]
  generalize (lg_sl ([.ref t0]) ++ List.replicate (2 - (lg_sl ([.ref t0])).length) Slot.unset).toArray = ls at hl ⊢
  have hl : lv_has ls 2 [(0, .ref t0)] := hl
  generalize hle : ([] : List Loc) = locs at hLo ⊢
  unfold f_T_read at heq
  refine lv_aload_n hx hb d_T_read_0 rfl (lv_at hl 0 rfl) ?_
  refine x_ck heq (fun tt fs ha ht heq => ?_)
  obtain rfl : tt = 0 := by simpa using ht
  refine x_bV (mc := 1) (ms := 6) (st := []) hc hLo heq ⟨by omega, by omega⟩ (fun r9 h9 => x_runV hc (c_T_startReading hc.g rm_T_startReading rk_T_startReading _ _ _ h9) md_T_startReading hR ha rfl wd_427 wd_429 sp_2 hl.1 ml_T_startReading rfl (Nat.le_of_ble_eq_true rfl) d_T_read_1 ⟨by show 7 + 1 ≤ _; omega, by show 8 + (1 + 11) + (101) ≤ _; omega⟩ ⟨by show 0 + 1 ≤ _; omega, by show 0 + 6 ≤ _; omega⟩) (fun h1 H locs hR hLo heq => ?_)
  refine lv_aload_n hx hb d_T_read_4 rfl (lv_at hl 0 rfl) ?_
  refine lv_iconst (v := 1) hx hb d_T_read_5 (by decide) ?_
  refine x_ck heq (fun tt fs ha ht heq => ?_)
  obtain rfl : tt = 0 := by simpa using ht
  refine x_bI (mc := 0) (ms := 0) (st := []) hc hLo heq ⟨by omega, by omega⟩ (fun r9 h9 => x_runV hc (c_T_request hc.g rm_T_request rk_T_request _ _ _ _ h9) md_T_request hR ha rfl wd_439 wd_441 sp_4 hl.1 ml_T_request rfl (Nat.le_of_ble_eq_true rfl) d_T_read_6 ⟨by show 81 + 1 ≤ _; omega, by show 8 + (3 + 11) + (1629) ≤ _; omega⟩ ⟨by show 1 + 0 ≤ _; omega, by show 6 + 0 ≤ _; omega⟩) (fun v1 h2 H locs hR hLo heq => ?_)
  refine lv_istore_n (lv' := [(1, .int v1), (0, .ref t0)]) hx hb d_T_read_9 rfl hl (by decide) rfl (fun ls hl => ?_)
  refine lv_iload_n hx hb d_T_read_10 rfl (lv_at hl 0 rfl) ?_
  refine lv_iconst (v := (-1)) hx hb d_T_read_11 (by decide) ?_
  refine lv_icmp_ne (tgt := 23) hx hb d_T_read_12 rfl (fun hq => ?_) (fun hq => ?_)
  · rw [if_neg hq] at heq
    refine lv_aload_n hx hb d_T_read_23 rfl (lv_at hl 1 rfl) ?_
    refine x_gA hc hR fl_T_31 heq d_T_read_24 (fun v2 heq => ?_)
    refine lv_aload_n hx hb d_T_read_27 rfl (lv_at hl 1 rfl) ?_
    refine x_gA hc hR fl_T_22 heq d_T_read_28 (fun v3 heq => ?_)
    refine lv_iload_n hx hb d_T_read_31 rfl (lv_at hl 0 rfl) ?_
    refine x_ck heq (fun tt fs ha ht heq => ?_)
    obtain rfl : tt = 1 := by simpa using ht
    refine x_bV (mc := 0) (ms := 0) (st := []) hc hLo heq ⟨by omega, by omega⟩ (fun r9 h9 => x_runV hc (c_Row_addAll hc.g rm_Row_addAll rk_Row_addAll _ _ _ _ _ h9) md_Row_addAll hR ha rfl wd_490 wd_491 wd_492 hl.1 ml_Row_addAll rfl (Nat.le_of_ble_eq_true rfl) d_T_read_32 ⟨by show 1 + 1 ≤ _; omega, by show 8 + (4 + 11) + (21) ≤ _; omega⟩ ⟨by show 1 + 0 ≤ _; omega, by show 6 + 0 ≤ _; omega⟩) (fun h3 H locs hR hLo heq => ?_)
    refine lv_aload_n hx hb d_T_read_35 rfl (lv_at hl 1 rfl) ?_
    refine x_gA hc hR fl_T_31 heq d_T_read_36 (fun v4 heq => ?_)
    refine lv_iconst (v := 0) hx hb d_T_read_39 (by decide) ?_
    refine x_ck heq (fun tt fs ha ht heq => ?_)
    obtain rfl : tt = 1 := by simpa using ht
    refine x_bI (mc := 0) (ms := 0) (st := []) hc hLo heq ⟨by omega, by omega⟩ (fun r9 h9 => x_runV hc (c_Row_get hc.g rm_Row_get rk_Row_get _ _ _ _ h9) md_Row_get hR ha rfl wd_197 wd_198 wd_199 hl.1 ml_Row_get rfl (Nat.le_of_ble_eq_true rfl) d_T_read_40 ⟨by show 0 + 1 ≤ _; omega, by show 8 + (2 + 11) + (0) ≤ _; omega⟩ ⟨by show 1 + 0 ≤ _; omega, by show 6 + 0 ≤ _; omega⟩) (fun v5 h4 H locs hR hLo heq => ?_)
    exact x_iret hc hR hLo ⟨by omega, by omega⟩ heq d_T_read_43
  · rw [if_pos hq] at heq
    exact x_thr (names := ["java/lang/RuntimeException", "java/lang/Exception"]) hc hR hLo rfl (by decide +kernel) (by decide +kernel) wd_278 wd_10 tha_T_49 hl.1 d_T_read_15 d_T_read_18 d_T_read_19 d_T_read_22 ⟨by omega, by omega⟩ (by show 2 + 3 < _; omega) (by show 0 + (13 * (2 + 1) + 42) ≤ _; omega) heq
def rm_T_read : Room := { frames := 82, cells := 2, slots := 12, locals := 1651 }
theorem rk_T_read : rm_Ok 2 12 82 1651 rm_T_read := ⟨Nat.le_refl _, Nat.le_refl _, Nat.le_refl _, Nat.le_refl _⟩
def f_T_some_b15 (h0 : Hs_t) : Rs_t := th_N 9 h0
def f_T_some_b63 (sv0 : Int32) (h0 : Hs_t) : Rs_t := re_I sv0 h0
def f_T_some (t0 : Nat) (x1 : Int32) (h0 : Hs_t) : Rs_t := (ck_T [0] h0 t0).bind fun _ => bd_V (f_T_startReading t0 h0) (fun h1 => if x1 < 1 then (f_T_some_b15 h1) else (if x1 ≤ 60 then ((ck_T [0] h1 t0).bind fun _ => bd_I (f_T_request t0 x1 h1) (fun v1 h2 => if v1 = (-1) then (th_N 10 h2) else ((fd_A [0] 3 h2 t0).bind fun v2 => (fd_A [0] 2 h2 t0).bind fun v3 => (ck_T [1] h2 v2).bind fun _ => bd_V (f_Row_addAll v2 v3 v1 h2) (fun h3 => if v1 = 0 then (f_T_some_b63 (-1) h3) else (f_T_some_b63 v1 h3))))) else (f_T_some_b15 h1)))
set_option maxRecDepth 100000 in
set_option maxHeartbeats 4000000 in
theorem k_T_some_b15 {p : Program} {l : Launch} {e : Env} {s : State} {m : MethodId} {args : Array Value} {below : List Frame} {meth : Method} {c : Code} {s0 : State} {A0 : Array Value} {G : Gx_t} {r : Outcome × Hs_t} {rm : Room} (hc : Cx_t p s m meth c s0 A0 l G y_T_some b_T_some 3 (some .int) []) (hrm : rm_Ok 2 12 82 1651 rm) : ∀  (h0 : Hs_t) (H : Heap) (locs : List Loc) (ls : Array Slot), Rp_h G s0.heap h0 H → Lo_k s0 locs → lv_has ls 3 [] → f_T_some_b15  h0 = some r → W p l e rm s m args below meth c H locs 1 6 (xq_MQ G s0 below r s rm.cells rm.slots) (F0 m 15 ls []) := by
  have hx := hc.x
  have hb := hc.b
  obtain ⟨hm1, hm2, hm3, hm4⟩ := id hrm
  intro  h0 H locs ls hR hLo hl heq
  unfold f_T_some_b15 at heq
  exact x_thr (names := ["java/lang/RuntimeException", "java/lang/Exception"]) hc hR hLo rfl (by decide +kernel) (by decide +kernel) wd_210 wd_9 tha_T_42 hl.1 d_T_some_15 d_T_some_18 d_T_some_19 d_T_some_22 ⟨by omega, by omega⟩ (by show 2 + 3 < _; omega) (by show 0 + (13 * (2 + 1) + 42) ≤ _; omega) heq
set_option maxRecDepth 100000 in
set_option maxHeartbeats 4000000 in
theorem k_T_some_b63 {p : Program} {l : Launch} {e : Env} {s : State} {m : MethodId} {args : Array Value} {below : List Frame} {meth : Method} {c : Code} {s0 : State} {A0 : Array Value} {G : Gx_t} {r : Outcome × Hs_t} {rm : Room} (hc : Cx_t p s m meth c s0 A0 l G y_T_some b_T_some 3 (some .int) []) (hrm : rm_Ok 2 12 82 1651 rm) : ∀ (sv0 : Int32) (h0 : Hs_t) (H : Heap) (locs : List Loc) (ls : Array Slot), Rp_h G s0.heap h0 H → Lo_k s0 locs → lv_has ls 3 [] → f_T_some_b63 sv0 h0 = some r → W p l e rm s m args below meth c H locs 1 6 (xq_MQ G s0 below r s rm.cells rm.slots) (F0 m 63 ls [.int sv0]) := by
  have hx := hc.x
  have hb := hc.b
  obtain ⟨hm1, hm2, hm3, hm4⟩ := id hrm
  intro sv0 h0 H locs ls hR hLo hl heq
  unfold f_T_some_b63 at heq
  exact x_iret hc hR hLo ⟨by omega, by omega⟩ heq d_T_some_63
set_option maxRecDepth 100000 in
set_option maxHeartbeats 4000000 in
theorem c_T_some {l : Launch} {s0 : State} {A0 : Array Value} {G : Gx_t} (hG : G_0 l s0 A0 G) (rm : Room) (hrm : rm_Ok 2 12 82 1651 rm) (t0 : Nat) (x1 : Int32) (h0 : Hs_t) (r : Outcome × Hs_t) (heq : f_T_some t0 x1 h0 = some r) : M_X G s0 l y_T_some (.code y_T_some b_T_some 3 (some .int)) rm [.ref t0, .int x1] h0 r := by
  refine M_X.of (by decide) hG (fun p e s m below meth c H hc hR => ?_)
  have hx := hc.x
  have hb := hc.b
  obtain ⟨hm1, hm2, hm3, hm4⟩ := id hrm
  have hLo : Lo_k s0 [] := fun _ hq => absurd hq List.not_mem_nil
  have hl := lv_entry ([.ref t0, .int x1]) (n := 3) (Nat.le_of_ble_eq_true rfl)
  rw [lg_entry_eq]
  generalize (lg_sl ([.ref t0, .int x1]) ++ List.replicate (3 - (lg_sl ([.ref t0, .int x1])).length) Slot.unset).toArray = ls at hl ⊢
  have hl : lv_has ls 3 [(0, .ref t0), (1, .int x1)] := hl
  generalize hle : ([] : List Loc) = locs at hLo ⊢
  unfold f_T_some at heq
  refine lv_aload_n hx hb d_T_some_0 rfl (lv_at hl 0 rfl) ?_
  refine x_ck heq (fun tt fs ha ht heq => ?_)
  obtain rfl : tt = 0 := by simpa using ht
  refine x_bV (mc := 1) (ms := 6) (st := []) hc hLo heq ⟨by omega, by omega⟩ (fun r9 h9 => x_runV hc (c_T_startReading hc.g rm_T_startReading rk_T_startReading _ _ _ h9) md_T_startReading hR ha rfl wd_427 wd_429 sp_2 hl.1 ml_T_startReading rfl (Nat.le_of_ble_eq_true rfl) d_T_some_1 ⟨by show 7 + 1 ≤ _; omega, by show 8 + (1 + 11) + (101) ≤ _; omega⟩ ⟨by show 0 + 1 ≤ _; omega, by show 0 + 6 ≤ _; omega⟩) (fun h1 H locs hR hLo heq => ?_)
  refine lv_iload_n hx hb d_T_some_4 rfl (lv_at hl 1 rfl) ?_
  refine lv_iconst (v := 1) hx hb d_T_some_5 (by decide) ?_
  refine lv_icmp_lt (tgt := 15) hx hb d_T_some_6 rfl (fun hq => ?_) (fun hq => ?_)
  · rw [if_pos hq] at heq
    refine W.widen (k := 1) (n := 6) (by omega) (by omega) ?_
    exact k_T_some_b15 hc hrm h1 H locs ls hR hLo (lv_sub hl [] rfl) heq
  · rw [if_neg hq] at heq
    refine lv_iload_n hx hb d_T_some_9 rfl (lv_at hl 1 rfl) ?_
    refine lv_bipush (v := 60) hx hb d_T_some_10 (by decide) ?_
    refine lv_icmp_le (tgt := 23) hx hb d_T_some_12 rfl (fun hq => ?_) (fun hq => ?_)
    · rw [if_pos hq] at heq
      refine lv_aload_n hx hb d_T_some_23 rfl (lv_at hl 0 rfl) ?_
      refine lv_iload_n hx hb d_T_some_24 rfl (lv_at hl 1 rfl) ?_
      refine x_ck heq (fun tt fs ha ht heq => ?_)
      obtain rfl : tt = 0 := by simpa using ht
      refine x_bI (mc := 0) (ms := 0) (st := []) hc hLo heq ⟨by omega, by omega⟩ (fun r9 h9 => x_runV hc (c_T_request hc.g rm_T_request rk_T_request _ _ _ _ h9) md_T_request hR ha rfl wd_439 wd_441 sp_4 hl.1 ml_T_request rfl (Nat.le_of_ble_eq_true rfl) d_T_some_25 ⟨by show 81 + 1 ≤ _; omega, by show 8 + (3 + 11) + (1629) ≤ _; omega⟩ ⟨by show 1 + 0 ≤ _; omega, by show 6 + 0 ≤ _; omega⟩) (fun v1 h2 H locs hR hLo heq => ?_)
      refine lv_istore_n (lv' := [(2, .int v1), (0, .ref t0), (1, .int x1)]) hx hb d_T_some_28 rfl hl (by decide) rfl (fun ls hl => ?_)
      refine lv_iload_n hx hb d_T_some_29 rfl (lv_at hl 0 rfl) ?_
      refine lv_iconst (v := (-1)) hx hb d_T_some_30 (by decide) ?_
      refine lv_icmp_ne (tgt := 42) hx hb d_T_some_31 rfl (fun hq => ?_) (fun hq => ?_)
      · rw [if_neg hq] at heq
        refine lv_aload_n hx hb d_T_some_42 rfl (lv_at hl 1 rfl) ?_
        refine x_gA hc hR fl_T_31 heq d_T_some_43 (fun v2 heq => ?_)
        refine lv_aload_n hx hb d_T_some_46 rfl (lv_at hl 1 rfl) ?_
        refine x_gA hc hR fl_T_22 heq d_T_some_47 (fun v3 heq => ?_)
        refine lv_iload_n hx hb d_T_some_50 rfl (lv_at hl 0 rfl) ?_
        refine x_ck heq (fun tt fs ha ht heq => ?_)
        obtain rfl : tt = 1 := by simpa using ht
        refine x_bV (mc := 0) (ms := 0) (st := []) hc hLo heq ⟨by omega, by omega⟩ (fun r9 h9 => x_runV hc (c_Row_addAll hc.g rm_Row_addAll rk_Row_addAll _ _ _ _ _ h9) md_Row_addAll hR ha rfl wd_490 wd_491 wd_492 hl.1 ml_Row_addAll rfl (Nat.le_of_ble_eq_true rfl) d_T_some_51 ⟨by show 1 + 1 ≤ _; omega, by show 8 + (4 + 11) + (21) ≤ _; omega⟩ ⟨by show 1 + 0 ≤ _; omega, by show 6 + 0 ≤ _; omega⟩) (fun h3 H locs hR hLo heq => ?_)
        refine lv_iload_n hx hb d_T_some_54 rfl (lv_at hl 0 rfl) ?_
        refine lv_if_ne (tgt := 62) hx hb d_T_some_55 rfl (fun hq => ?_) (fun hq => ?_)
        · rw [if_neg hq] at heq
          refine lv_iload_n hx hb d_T_some_62 rfl (lv_at hl 0 rfl) ?_
          refine W.widen (k := 1) (n := 6) (by omega) (by omega) ?_
          exact k_T_some_b63 hc hrm v1 h3 H locs ls hR hLo (lv_sub hl [] rfl) heq
        · rw [if_pos hq] at heq
          refine lv_iconst (v := (-1)) hx hb d_T_some_58 (by decide) ?_
          refine lv_goto (tgt := 63) hx hb d_T_some_59 rfl ?_
          refine W.widen (k := 1) (n := 6) (by omega) (by omega) ?_
          exact k_T_some_b63 hc hrm (-1) h3 H locs ls hR hLo (lv_sub hl [] rfl) heq
      · rw [if_pos hq] at heq
        exact x_thr (names := ["java/lang/RuntimeException", "java/lang/Exception"]) hc hR hLo rfl (by decide +kernel) (by decide +kernel) wd_278 wd_10 tha_T_49 hl.1 d_T_some_34 d_T_some_37 d_T_some_38 d_T_some_41 ⟨by omega, by omega⟩ (by show 2 + 3 < _; omega) (by show 0 + (13 * (2 + 1) + 42) ≤ _; omega) heq
    · rw [if_neg hq] at heq
      refine W.widen (k := 1) (n := 6) (by omega) (by omega) ?_
      exact k_T_some_b15 hc hrm h1 H locs ls hR hLo (lv_sub hl [] rfl) heq
def rm_T_some : Room := { frames := 82, cells := 2, slots := 12, locals := 1651 }
theorem rk_T_some : rm_Ok 2 12 82 1651 rm_T_some := ⟨Nat.le_refl _, Nat.le_refl _, Nat.le_refl _, Nat.le_refl _⟩
def f_T_readAll_b74 (h0 : Hs_t) : Rs_t := re_V h0
def f_T_readAll_b4 : Nat → Nat → Int32 → Int32 → Int32 → Hs_t → Rs_t
  | 0, _, _, _, _, _ => none
  | n + 1, t0, x1, x2, x3, h0 => if x1 ≤ x3 then (f_T_readAll_b74 h0) else (if x1 ≤ x2 then (f_T_readAll_b74 h0) else ((ck_T [0] h0 t0).bind fun _ => bd_I (f_T_request t0 (x1 - x2) h0) (fun v1 h1 => if v1 = (-1) then (th_N 10 h1) else (if v1 = 0 then (th_N 11 h1) else ((fd_A [0] 3 h1 t0).bind fun v2 => (fd_A [0] 2 h1 t0).bind fun v3 => (ck_T [1] h1 v2).bind fun _ => bd_V (f_Row_addAll v2 v3 v1 h1) (fun h2 => (f_T_readAll_b4 n) t0 x1 (x2 + v1) (x3 + 1) h2))))))
def f_T_readAll (t0 : Nat) (x1 : Int32) (h0 : Hs_t) : Rs_t := f_T_readAll_b4 fu_N t0 x1 0 0 h0
set_option maxRecDepth 100000 in
set_option maxHeartbeats 4000000 in
theorem k_T_readAll_b74 {p : Program} {l : Launch} {e : Env} {s : State} {m : MethodId} {args : Array Value} {below : List Frame} {meth : Method} {c : Code} {s0 : State} {A0 : Array Value} {G : Gx_t} {r : Outcome × Hs_t} {rm : Room} (hc : Cx_t p s m meth c s0 A0 l G y_T_readAll b_T_readAll 5 none []) (hrm : rm_Ok 1 6 82 1651 rm) : ∀  (h0 : Hs_t) (H : Heap) (locs : List Loc) (ls : Array Slot), Rp_h G s0.heap h0 H → Lo_k s0 locs → lv_has ls 5 [] → f_T_readAll_b74  h0 = some r → W p l e rm s m args below meth c H locs 0 0 (xq_MQ G s0 below r s rm.cells rm.slots) (F0 m 74 ls []) := by
  have hx := hc.x
  have hb := hc.b
  obtain ⟨hm1, hm2, hm3, hm4⟩ := id hrm
  intro  h0 H locs ls hR hLo hl heq
  unfold f_T_readAll_b74 at heq
  exact x_vret hc hR hLo ⟨by omega, by omega⟩ heq d_T_readAll_74
set_option maxRecDepth 100000 in
set_option maxHeartbeats 4000000 in
theorem k_T_readAll_b4 {p : Program} {l : Launch} {e : Env} {s : State} {m : MethodId} {args : Array Value} {below : List Frame} {meth : Method} {c : Code} {s0 : State} {A0 : Array Value} {G : Gx_t} {r : Outcome × Hs_t} {rm : Room} (hc : Cx_t p s m meth c s0 A0 l G y_T_readAll b_T_readAll 5 none []) (hrm : rm_Ok 1 6 82 1651 rm) : ∀ (n : Nat) (t0 : Nat) (x1 : Int32) (x2 : Int32) (x3 : Int32) (h0 : Hs_t) (H : Heap) (locs : List Loc) (ls : Array Slot), Rp_h G s0.heap h0 H → Lo_k s0 locs → lv_has ls 5 [(0, .ref t0), (1, .int x1), (2, .int x2), (3, .int x3)] → f_T_readAll_b4 n t0 x1 x2 x3 h0 = some r → W p l e rm s m args below meth c H locs 0 0 (xq_MQ G s0 below r s rm.cells rm.slots) (F0 m 4 ls []) := by
  have hx := hc.x
  have hb := hc.b
  obtain ⟨hm1, hm2, hm3, hm4⟩ := id hrm
  intro n
  induction n with
  | zero =>
    intro t0 x1 x2 x3 h0 H locs ls hR hLo hl heq
    unfold f_T_readAll_b4 at heq
    cases heq
  | succ n hr4 =>
    intro t0 x1 x2 x3 h0 H locs ls hR hLo hl heq
    unfold f_T_readAll_b4 at heq
    refine lv_iload_n hx hb d_T_readAll_4 rfl (lv_at hl 3 rfl) ?_
    refine lv_iload_n hx hb d_T_readAll_5 rfl (lv_at hl 1 rfl) ?_
    refine lv_icmp_ge (tgt := 74) hx hb d_T_readAll_6 rfl (fun hq => ?_) (fun hq => ?_)
    · rw [if_pos hq] at heq
      refine W.widen (k := 0) (n := 0) (by omega) (by omega) ?_
      exact k_T_readAll_b74 hc hrm h0 H locs ls hR hLo (lv_sub hl [] rfl) heq
    · rw [if_neg hq] at heq
      refine lv_iload_n hx hb d_T_readAll_9 rfl (lv_at hl 2 rfl) ?_
      refine lv_iload_n hx hb d_T_readAll_10 rfl (lv_at hl 1 rfl) ?_
      refine lv_icmp_ge (tgt := 74) hx hb d_T_readAll_11 rfl (fun hq => ?_) (fun hq => ?_)
      · rw [if_pos hq] at heq
        refine W.widen (k := 0) (n := 0) (by omega) (by omega) ?_
        exact k_T_readAll_b74 hc hrm h0 H locs ls hR hLo (lv_sub hl [] rfl) heq
      · rw [if_neg hq] at heq
        refine lv_aload_n hx hb d_T_readAll_14 rfl (lv_at hl 0 rfl) ?_
        refine lv_iload_n hx hb d_T_readAll_15 rfl (lv_at hl 1 rfl) ?_
        refine lv_iload_n hx hb d_T_readAll_16 rfl (lv_at hl 2 rfl) ?_
        refine lv_isub hx hb d_T_readAll_17 ?_
        refine x_ck heq (fun tt fs ha ht heq => ?_)
        obtain rfl : tt = 0 := by simpa using ht
        refine x_bI (mc := 0) (ms := 0) (st := []) hc hLo heq ⟨by omega, by omega⟩ (fun r9 h9 => x_runV hc (c_T_request hc.g rm_T_request rk_T_request _ _ _ _ h9) md_T_request hR ha rfl wd_439 wd_441 sp_4 hl.1 ml_T_request rfl (Nat.le_of_ble_eq_true rfl) d_T_readAll_18 ⟨by show 81 + 1 ≤ _; omega, by show 8 + (3 + 11) + (1629) ≤ _; omega⟩ ⟨by show 0 + 0 ≤ _; omega, by show 0 + 0 ≤ _; omega⟩) (fun v1 h1 H locs hR hLo heq => ?_)
        refine lv_istore (lv' := [(4, .int v1), (0, .ref t0), (1, .int x1), (2, .int x2), (3, .int x3)]) hx hb d_T_readAll_21 hl (by decide) rfl (fun ls hl => ?_)
        refine lv_iload hx hb d_T_readAll_23 (lv_at hl 0 rfl) ?_
        refine lv_iconst (v := (-1)) hx hb d_T_readAll_25 (by decide) ?_
        refine lv_icmp_ne (tgt := 37) hx hb d_T_readAll_26 rfl (fun hq => ?_) (fun hq => ?_)
        · rw [if_neg hq] at heq
          refine lv_iload hx hb d_T_readAll_37 (lv_at hl 0 rfl) ?_
          refine lv_if_ne (tgt := 50) hx hb d_T_readAll_39 rfl (fun hq => ?_) (fun hq => ?_)
          · rw [if_neg hq] at heq
            refine lv_aload_n hx hb d_T_readAll_50 rfl (lv_at hl 1 rfl) ?_
            refine x_gA hc hR fl_T_31 heq d_T_readAll_51 (fun v2 heq => ?_)
            refine lv_aload_n hx hb d_T_readAll_54 rfl (lv_at hl 1 rfl) ?_
            refine x_gA hc hR fl_T_22 heq d_T_readAll_55 (fun v3 heq => ?_)
            refine lv_iload hx hb d_T_readAll_58 (lv_at hl 0 rfl) ?_
            refine x_ck heq (fun tt fs ha ht heq => ?_)
            obtain rfl : tt = 1 := by simpa using ht
            refine x_bV (mc := 0) (ms := 0) (st := []) hc hLo heq ⟨by omega, by omega⟩ (fun r9 h9 => x_runV hc (c_Row_addAll hc.g rm_Row_addAll rk_Row_addAll _ _ _ _ _ h9) md_Row_addAll hR ha rfl wd_490 wd_491 wd_492 hl.1 ml_Row_addAll rfl (Nat.le_of_ble_eq_true rfl) d_T_readAll_60 ⟨by show 1 + 1 ≤ _; omega, by show 8 + (4 + 11) + (21) ≤ _; omega⟩ ⟨by show 0 + 0 ≤ _; omega, by show 0 + 0 ≤ _; omega⟩) (fun h2 H locs hR hLo heq => ?_)
            refine lv_iload_n hx hb d_T_readAll_63 rfl (lv_at hl 3 rfl) ?_
            refine lv_iload hx hb d_T_readAll_64 (lv_at hl 0 rfl) ?_
            refine lv_iadd hx hb d_T_readAll_66 ?_
            refine lv_istore_n (lv' := [(2, .int (x2 + v1)), (4, .int v1), (0, .ref t0), (1, .int x1), (3, .int x3)]) hx hb d_T_readAll_67 rfl hl (by decide) rfl (fun ls hl => ?_)
            refine lv_iinc (k := 4) (v := (x3 + 1)) (lv' := [(3, .int (x3 + 1)), (2, .int (x2 + v1)), (4, .int v1), (0, .ref t0), (1, .int x1)]) hx hb d_T_readAll_68 hl rfl rfl (by decide) rfl (fun ls hl => ?_)
            refine lv_goto (tgt := 4) hx hb d_T_readAll_71 rfl ?_
            refine W.widen (k := 0) (n := 0) (by omega) (by omega) ?_
            exact hr4 t0 x1 (x2 + v1) (x3 + 1) h2 H locs ls hR hLo (lv_sub hl [3, 4, 1, 0] rfl) heq
          · rw [if_pos hq] at heq
            exact x_thr (names := ["java/lang/RuntimeException", "java/lang/Exception"]) hc hR hLo rfl (by decide +kernel) (by decide +kernel) wd_517 wd_19 tha_T_187 hl.1 d_T_readAll_42 d_T_readAll_45 d_T_readAll_46 d_T_readAll_49 ⟨by omega, by omega⟩ (by show 2 + 3 < _; omega) (by show 0 + (13 * (2 + 1) + 42) ≤ _; omega) heq
        · rw [if_pos hq] at heq
          exact x_thr (names := ["java/lang/RuntimeException", "java/lang/Exception"]) hc hR hLo rfl (by decide +kernel) (by decide +kernel) wd_278 wd_10 tha_T_49 hl.1 d_T_readAll_29 d_T_readAll_32 d_T_readAll_33 d_T_readAll_36 ⟨by omega, by omega⟩ (by show 2 + 3 < _; omega) (by show 0 + (13 * (2 + 1) + 42) ≤ _; omega) heq
set_option maxRecDepth 100000 in
set_option maxHeartbeats 4000000 in
theorem c_T_readAll {l : Launch} {s0 : State} {A0 : Array Value} {G : Gx_t} (hG : G_0 l s0 A0 G) (rm : Room) (hrm : rm_Ok 1 6 82 1651 rm) (t0 : Nat) (x1 : Int32) (h0 : Hs_t) (r : Outcome × Hs_t) (heq : f_T_readAll t0 x1 h0 = some r) : M_X G s0 l y_T_readAll (.code y_T_readAll b_T_readAll 5 none) rm [.ref t0, .int x1] h0 r := by
  refine M_X.of (by decide) hG (fun p e s m below meth c H hc hR => ?_)
  have hx := hc.x
  have hb := hc.b
  obtain ⟨hm1, hm2, hm3, hm4⟩ := id hrm
  have hLo : Lo_k s0 [] := fun _ hq => absurd hq List.not_mem_nil
  have hl := lv_entry ([.ref t0, .int x1]) (n := 5) (Nat.le_of_ble_eq_true rfl)
  rw [lg_entry_eq]
  generalize (lg_sl ([.ref t0, .int x1]) ++ List.replicate (5 - (lg_sl ([.ref t0, .int x1])).length) Slot.unset).toArray = ls at hl ⊢
  have hl : lv_has ls 5 [(0, .ref t0), (1, .int x1)] := hl
  generalize hle : ([] : List Loc) = locs at hLo ⊢
  unfold f_T_readAll at heq
  refine lv_iconst (v := 0) hx hb d_T_readAll_0 (by decide) ?_
  refine lv_istore_n (lv' := [(2, .int 0), (0, .ref t0), (1, .int x1)]) hx hb d_T_readAll_1 rfl hl (by decide) rfl (fun ls hl => ?_)
  refine lv_iconst (v := 0) hx hb d_T_readAll_2 (by decide) ?_
  refine lv_istore_n (lv' := [(3, .int 0), (2, .int 0), (0, .ref t0), (1, .int x1)]) hx hb d_T_readAll_3 rfl hl (by decide) rfl (fun ls hl => ?_)
  refine W.widen (k := 0) (n := 0) (by omega) (by omega) ?_
  exact k_T_readAll_b4 hc hrm fu_N t0 x1 0 0 h0 H locs ls hR hLo (lv_sub hl [2, 3, 1, 0] rfl) heq
def rm_T_readAll : Room := { frames := 82, cells := 1, slots := 6, locals := 1651 }
theorem rk_T_readAll : rm_Ok 1 6 82 1651 rm_T_readAll := ⟨Nat.le_refl _, Nat.le_refl _, Nat.le_refl _, Nat.le_refl _⟩
def f_T_full_b14 (h0 : Hs_t) : Rs_t := th_N 9 h0
def f_T_full (t0 : Nat) (x1 : Int32) (h0 : Hs_t) : Rs_t := (ck_T [0] h0 t0).bind fun _ => bd_V (f_T_startReading t0 h0) (fun h1 => if x1 < 0 then (f_T_full_b14 h1) else (if x1 ≤ 60 then ((ck_T [0] h1 t0).bind fun _ => bd_V (f_T_readAll t0 x1 h1) (fun h2 => re_V h2)) else (f_T_full_b14 h1)))
set_option maxRecDepth 100000 in
set_option maxHeartbeats 4000000 in
theorem k_T_full_b14 {p : Program} {l : Launch} {e : Env} {s : State} {m : MethodId} {args : Array Value} {below : List Frame} {meth : Method} {c : Code} {s0 : State} {A0 : Array Value} {G : Gx_t} {r : Outcome × Hs_t} {rm : Room} (hc : Cx_t p s m meth c s0 A0 l G y_T_full b_T_full 2 none []) (hrm : rm_Ok 2 12 83 1675 rm) : ∀  (h0 : Hs_t) (H : Heap) (locs : List Loc) (ls : Array Slot), Rp_h G s0.heap h0 H → Lo_k s0 locs → lv_has ls 2 [] → f_T_full_b14  h0 = some r → W p l e rm s m args below meth c H locs 1 6 (xq_MQ G s0 below r s rm.cells rm.slots) (F0 m 14 ls []) := by
  have hx := hc.x
  have hb := hc.b
  obtain ⟨hm1, hm2, hm3, hm4⟩ := id hrm
  intro  h0 H locs ls hR hLo hl heq
  unfold f_T_full_b14 at heq
  exact x_thr (names := ["java/lang/RuntimeException", "java/lang/Exception"]) hc hR hLo rfl (by decide +kernel) (by decide +kernel) wd_210 wd_9 tha_T_42 hl.1 d_T_full_14 d_T_full_17 d_T_full_18 d_T_full_21 ⟨by omega, by omega⟩ (by show 2 + 3 < _; omega) (by show 0 + (13 * (2 + 1) + 42) ≤ _; omega) heq
set_option maxRecDepth 100000 in
set_option maxHeartbeats 4000000 in
theorem c_T_full {l : Launch} {s0 : State} {A0 : Array Value} {G : Gx_t} (hG : G_0 l s0 A0 G) (rm : Room) (hrm : rm_Ok 2 12 83 1675 rm) (t0 : Nat) (x1 : Int32) (h0 : Hs_t) (r : Outcome × Hs_t) (heq : f_T_full t0 x1 h0 = some r) : M_X G s0 l y_T_full (.code y_T_full b_T_full 2 none) rm [.ref t0, .int x1] h0 r := by
  refine M_X.of (by decide) hG (fun p e s m below meth c H hc hR => ?_)
  have hx := hc.x
  have hb := hc.b
  obtain ⟨hm1, hm2, hm3, hm4⟩ := id hrm
  have hLo : Lo_k s0 [] := fun _ hq => absurd hq List.not_mem_nil
  have hl := lv_entry ([.ref t0, .int x1]) (n := 2) (Nat.le_of_ble_eq_true rfl)
  rw [lg_entry_eq]
  generalize (lg_sl ([.ref t0, .int x1]) ++ List.replicate (2 - (lg_sl ([.ref t0, .int x1])).length) Slot.unset).toArray = ls at hl ⊢
  have hl : lv_has ls 2 [(0, .ref t0), (1, .int x1)] := hl
  generalize hle : ([] : List Loc) = locs at hLo ⊢
  unfold f_T_full at heq
  refine lv_aload_n hx hb d_T_full_0 rfl (lv_at hl 0 rfl) ?_
  refine x_ck heq (fun tt fs ha ht heq => ?_)
  obtain rfl : tt = 0 := by simpa using ht
  refine x_bV (mc := 1) (ms := 6) (st := []) hc hLo heq ⟨by omega, by omega⟩ (fun r9 h9 => x_runV hc (c_T_startReading hc.g rm_T_startReading rk_T_startReading _ _ _ h9) md_T_startReading hR ha rfl wd_427 wd_429 sp_2 hl.1 ml_T_startReading rfl (Nat.le_of_ble_eq_true rfl) d_T_full_1 ⟨by show 7 + 1 ≤ _; omega, by show 8 + (1 + 11) + (101) ≤ _; omega⟩ ⟨by show 0 + 1 ≤ _; omega, by show 0 + 6 ≤ _; omega⟩) (fun h1 H locs hR hLo heq => ?_)
  refine lv_iload_n hx hb d_T_full_4 rfl (lv_at hl 1 rfl) ?_
  refine lv_if_lt (tgt := 14) hx hb d_T_full_5 rfl (fun hq => ?_) (fun hq => ?_)
  · rw [if_pos hq] at heq
    refine W.widen (k := 1) (n := 6) (by omega) (by omega) ?_
    exact k_T_full_b14 hc hrm h1 H locs ls hR hLo (lv_sub hl [] rfl) heq
  · rw [if_neg hq] at heq
    refine lv_iload_n hx hb d_T_full_8 rfl (lv_at hl 1 rfl) ?_
    refine lv_bipush (v := 60) hx hb d_T_full_9 (by decide) ?_
    refine lv_icmp_le (tgt := 22) hx hb d_T_full_11 rfl (fun hq => ?_) (fun hq => ?_)
    · rw [if_pos hq] at heq
      refine lv_aload_n hx hb d_T_full_22 rfl (lv_at hl 0 rfl) ?_
      refine lv_iload_n hx hb d_T_full_23 rfl (lv_at hl 1 rfl) ?_
      refine x_ck heq (fun tt fs ha ht heq => ?_)
      obtain rfl : tt = 0 := by simpa using ht
      refine x_bV (mc := 1) (ms := 6) (st := []) hc hLo heq ⟨by omega, by omega⟩ (fun r9 h9 => x_runV hc (c_T_readAll hc.g rm_T_readAll rk_T_readAll _ _ _ _ h9) md_T_readAll hR ha rfl wd_513 wd_515 sp_8 hl.1 ml_T_readAll rfl (Nat.le_of_ble_eq_true rfl) d_T_full_24 ⟨by show 82 + 1 ≤ _; omega, by show 8 + (5 + 11) + (1651) ≤ _; omega⟩ ⟨by show 1 + 1 ≤ _; omega, by show 6 + 6 ≤ _; omega⟩) (fun h2 H locs hR hLo heq => ?_)
      exact x_vret hc hR hLo ⟨by omega, by omega⟩ heq d_T_full_27
    · rw [if_neg hq] at heq
      refine W.widen (k := 1) (n := 6) (by omega) (by omega) ?_
      exact k_T_full_b14 hc hrm h1 H locs ls hR hLo (lv_sub hl [] rfl) heq
def rm_T_full : Room := { frames := 83, cells := 2, slots := 12, locals := 1675 }
theorem rk_T_full : rm_Ok 2 12 83 1675 rm_T_full := ⟨Nat.le_refl _, Nat.le_refl _, Nat.le_refl _, Nat.le_refl _⟩
def f_T_skip_b14 (h0 : Hs_t) : Rs_t := th_N 9 h0
def f_T_skip_b87 (x2 : Int32) (h0 : Hs_t) : Rs_t := re_I x2 h0
def f_T_skip_b74 (x2 : Int32) (h0 : Hs_t) : Rs_t := re_I x2 h0
def f_T_skip_b63 (r26 : Nat → Int32 → Int32 → Int32 → Hs_t → Rs_t) (t0 : Nat) (x1 : Int32) (x2 : Int32) (x3 : Int32) (x4 : Int32) (h0 : Hs_t) : Rs_t := if x4 = (-1) then (f_T_skip_b74 x2 h0) else (if x4 = 0 then (f_T_skip_b74 x2 h0) else (r26 t0 x1 (x2 + x4) (x3 + 1) h0))
def f_T_skip_b26 : Nat → Nat → Int32 → Int32 → Int32 → Hs_t → Rs_t
  | 0, _, _, _, _, _ => none
  | n + 1, t0, x1, x2, x3, h0 => if x1 ≤ x3 then (f_T_skip_b87 x2 h0) else (if x1 ≤ x2 then (f_T_skip_b87 x2 h0) else ((ck_T [0] h0 t0).bind fun _ => bd_I (f_T_request t0 (x1 - x2) h0) (fun v1 h2 => if v1 = (-1) then (if x2 = 0 then (th_N 10 h2) else (f_T_skip_b63 (f_T_skip_b26 n) t0 x1 x2 x3 v1 h2)) else (f_T_skip_b63 (f_T_skip_b26 n) t0 x1 x2 x3 v1 h2))))
def f_T_skip (t0 : Nat) (x1 : Int32) (h0 : Hs_t) : Rs_t := (ck_T [0] h0 t0).bind fun _ => bd_V (f_T_startReading t0 h0) (fun h1 => if x1 < 0 then (f_T_skip_b14 h1) else (if x1 ≤ 120 then (f_T_skip_b26 fu_N t0 x1 0 0 h1) else (f_T_skip_b14 h1)))
set_option maxRecDepth 100000 in
set_option maxHeartbeats 4000000 in
theorem k_T_skip_b14 {p : Program} {l : Launch} {e : Env} {s : State} {m : MethodId} {args : Array Value} {below : List Frame} {meth : Method} {c : Code} {s0 : State} {A0 : Array Value} {G : Gx_t} {r : Outcome × Hs_t} {rm : Room} (hc : Cx_t p s m meth c s0 A0 l G y_T_skip b_T_skip 5 (some .int) []) (hrm : rm_Ok 2 12 82 1651 rm) : ∀  (h0 : Hs_t) (H : Heap) (locs : List Loc) (ls : Array Slot), Rp_h G s0.heap h0 H → Lo_k s0 locs → lv_has ls 5 [] → f_T_skip_b14  h0 = some r → W p l e rm s m args below meth c H locs 1 6 (xq_MQ G s0 below r s rm.cells rm.slots) (F0 m 14 ls []) := by
  have hx := hc.x
  have hb := hc.b
  obtain ⟨hm1, hm2, hm3, hm4⟩ := id hrm
  intro  h0 H locs ls hR hLo hl heq
  unfold f_T_skip_b14 at heq
  exact x_thr (names := ["java/lang/RuntimeException", "java/lang/Exception"]) hc hR hLo rfl (by decide +kernel) (by decide +kernel) wd_210 wd_9 tha_T_42 hl.1 d_T_skip_14 d_T_skip_17 d_T_skip_18 d_T_skip_21 ⟨by omega, by omega⟩ (by show 2 + 3 < _; omega) (by show 0 + (13 * (2 + 1) + 42) ≤ _; omega) heq
set_option maxRecDepth 100000 in
set_option maxHeartbeats 4000000 in
theorem k_T_skip_b87 {p : Program} {l : Launch} {e : Env} {s : State} {m : MethodId} {args : Array Value} {below : List Frame} {meth : Method} {c : Code} {s0 : State} {A0 : Array Value} {G : Gx_t} {r : Outcome × Hs_t} {rm : Room} (hc : Cx_t p s m meth c s0 A0 l G y_T_skip b_T_skip 5 (some .int) []) (hrm : rm_Ok 2 12 82 1651 rm) : ∀ (x2 : Int32) (h0 : Hs_t) (H : Heap) (locs : List Loc) (ls : Array Slot), Rp_h G s0.heap h0 H → Lo_k s0 locs → lv_has ls 5 [(2, .int x2)] → f_T_skip_b87 x2 h0 = some r → W p l e rm s m args below meth c H locs 1 6 (xq_MQ G s0 below r s rm.cells rm.slots) (F0 m 87 ls []) := by
  have hx := hc.x
  have hb := hc.b
  obtain ⟨hm1, hm2, hm3, hm4⟩ := id hrm
  intro x2 h0 H locs ls hR hLo hl heq
  unfold f_T_skip_b87 at heq
  refine lv_iload_n hx hb d_T_skip_87 rfl (lv_at hl 0 rfl) ?_
  exact x_iret hc hR hLo ⟨by omega, by omega⟩ heq d_T_skip_88
set_option maxRecDepth 100000 in
set_option maxHeartbeats 4000000 in
theorem k_T_skip_b74 {p : Program} {l : Launch} {e : Env} {s : State} {m : MethodId} {args : Array Value} {below : List Frame} {meth : Method} {c : Code} {s0 : State} {A0 : Array Value} {G : Gx_t} {r : Outcome × Hs_t} {rm : Room} (hc : Cx_t p s m meth c s0 A0 l G y_T_skip b_T_skip 5 (some .int) []) (hrm : rm_Ok 2 12 82 1651 rm) : ∀ (x2 : Int32) (h0 : Hs_t) (H : Heap) (locs : List Loc) (ls : Array Slot), Rp_h G s0.heap h0 H → Lo_k s0 locs → lv_has ls 5 [(2, .int x2)] → f_T_skip_b74 x2 h0 = some r → W p l e rm s m args below meth c H locs 1 6 (xq_MQ G s0 below r s rm.cells rm.slots) (F0 m 74 ls []) := by
  have hx := hc.x
  have hb := hc.b
  obtain ⟨hm1, hm2, hm3, hm4⟩ := id hrm
  intro x2 h0 H locs ls hR hLo hl heq
  unfold f_T_skip_b74 at heq
  refine lv_iload_n hx hb d_T_skip_74 rfl (lv_at hl 0 rfl) ?_
  exact x_iret hc hR hLo ⟨by omega, by omega⟩ heq d_T_skip_75
set_option maxRecDepth 100000 in
set_option maxHeartbeats 4000000 in
theorem k_T_skip_b63 {p : Program} {l : Launch} {e : Env} {s : State} {m : MethodId} {args : Array Value} {below : List Frame} {meth : Method} {c : Code} {s0 : State} {A0 : Array Value} {G : Gx_t} {r : Outcome × Hs_t} {rm : Room} (r26 : Nat → Int32 → Int32 → Int32 → Hs_t → Rs_t) (hc : Cx_t p s m meth c s0 A0 l G y_T_skip b_T_skip 5 (some .int) []) (hrm : rm_Ok 2 12 82 1651 rm) (hr26 : ∀ (t0 : Nat) (x1 : Int32) (x2 : Int32) (x3 : Int32) (h0 : Hs_t) (H : Heap) (locs : List Loc) (ls : Array Slot), Rp_h G s0.heap h0 H → Lo_k s0 locs → lv_has ls 5 [(0, .ref t0), (1, .int x1), (2, .int x2), (3, .int x3)] → r26 t0 x1 x2 x3 h0 = some r → W p l e rm s m args below meth c H locs 1 6 (xq_MQ G s0 below r s rm.cells rm.slots) (F0 m 26 ls [])) : ∀ (t0 : Nat) (x1 : Int32) (x2 : Int32) (x3 : Int32) (x4 : Int32) (h0 : Hs_t) (H : Heap) (locs : List Loc) (ls : Array Slot), Rp_h G s0.heap h0 H → Lo_k s0 locs → lv_has ls 5 [(0, .ref t0), (1, .int x1), (2, .int x2), (3, .int x3), (4, .int x4)] → f_T_skip_b63 r26 t0 x1 x2 x3 x4 h0 = some r → W p l e rm s m args below meth c H locs 1 6 (xq_MQ G s0 below r s rm.cells rm.slots) (F0 m 63 ls []) := by
  have hx := hc.x
  have hb := hc.b
  obtain ⟨hm1, hm2, hm3, hm4⟩ := id hrm
  intro t0 x1 x2 x3 x4 h0 H locs ls hR hLo hl heq
  unfold f_T_skip_b63 at heq
  refine lv_iload hx hb d_T_skip_63 (lv_at hl 4 rfl) ?_
  refine lv_iconst (v := (-1)) hx hb d_T_skip_65 (by decide) ?_
  refine lv_icmp_eq (tgt := 74) hx hb d_T_skip_66 rfl (fun hq => ?_) (fun hq => ?_)
  · rw [if_pos hq] at heq
    refine W.widen (k := 1) (n := 6) (by omega) (by omega) ?_
    exact k_T_skip_b74 hc hrm x2 h0 H locs ls hR hLo (lv_sub hl [2] rfl) heq
  · rw [if_neg hq] at heq
    refine lv_iload hx hb d_T_skip_69 (lv_at hl 4 rfl) ?_
    refine lv_if_ne (tgt := 76) hx hb d_T_skip_71 rfl (fun hq => ?_) (fun hq => ?_)
    · rw [if_neg hq] at heq
      refine lv_iload_n hx hb d_T_skip_76 rfl (lv_at hl 2 rfl) ?_
      refine lv_iload hx hb d_T_skip_77 (lv_at hl 4 rfl) ?_
      refine lv_iadd hx hb d_T_skip_79 ?_
      refine lv_istore_n (lv' := [(2, .int (x2 + x4)), (0, .ref t0), (1, .int x1), (3, .int x3), (4, .int x4)]) hx hb d_T_skip_80 rfl hl (by decide) rfl (fun ls hl => ?_)
      refine lv_iinc (k := 3) (v := (x3 + 1)) (lv' := [(3, .int (x3 + 1)), (2, .int (x2 + x4)), (0, .ref t0), (1, .int x1), (4, .int x4)]) hx hb d_T_skip_81 hl rfl rfl (by decide) rfl (fun ls hl => ?_)
      refine lv_goto (tgt := 26) hx hb d_T_skip_84 rfl ?_
      refine W.widen (k := 1) (n := 6) (by omega) (by omega) ?_
      exact hr26 t0 x1 (x2 + x4) (x3 + 1) h0 H locs ls hR hLo (lv_sub hl [2, 3, 1, 0] rfl) heq
    · rw [if_pos hq] at heq
      refine W.widen (k := 1) (n := 6) (by omega) (by omega) ?_
      exact k_T_skip_b74 hc hrm x2 h0 H locs ls hR hLo (lv_sub hl [2] rfl) heq
set_option maxRecDepth 100000 in
set_option maxHeartbeats 4000000 in
theorem k_T_skip_b26 {p : Program} {l : Launch} {e : Env} {s : State} {m : MethodId} {args : Array Value} {below : List Frame} {meth : Method} {c : Code} {s0 : State} {A0 : Array Value} {G : Gx_t} {r : Outcome × Hs_t} {rm : Room} (hc : Cx_t p s m meth c s0 A0 l G y_T_skip b_T_skip 5 (some .int) []) (hrm : rm_Ok 2 12 82 1651 rm) : ∀ (n : Nat) (t0 : Nat) (x1 : Int32) (x2 : Int32) (x3 : Int32) (h0 : Hs_t) (H : Heap) (locs : List Loc) (ls : Array Slot), Rp_h G s0.heap h0 H → Lo_k s0 locs → lv_has ls 5 [(0, .ref t0), (1, .int x1), (2, .int x2), (3, .int x3)] → f_T_skip_b26 n t0 x1 x2 x3 h0 = some r → W p l e rm s m args below meth c H locs 1 6 (xq_MQ G s0 below r s rm.cells rm.slots) (F0 m 26 ls []) := by
  have hx := hc.x
  have hb := hc.b
  obtain ⟨hm1, hm2, hm3, hm4⟩ := id hrm
  intro n
  induction n with
  | zero =>
    intro t0 x1 x2 x3 h0 H locs ls hR hLo hl heq
    unfold f_T_skip_b26 at heq
    cases heq
  | succ n hr26 =>
    intro t0 x1 x2 x3 h0 H locs ls hR hLo hl heq
    unfold f_T_skip_b26 at heq
    refine lv_iload_n hx hb d_T_skip_26 rfl (lv_at hl 3 rfl) ?_
    refine lv_iload_n hx hb d_T_skip_27 rfl (lv_at hl 1 rfl) ?_
    refine lv_icmp_ge (tgt := 87) hx hb d_T_skip_28 rfl (fun hq => ?_) (fun hq => ?_)
    · rw [if_pos hq] at heq
      refine W.widen (k := 1) (n := 6) (by omega) (by omega) ?_
      exact k_T_skip_b87 hc hrm x2 h0 H locs ls hR hLo (lv_sub hl [2] rfl) heq
    · rw [if_neg hq] at heq
      refine lv_iload_n hx hb d_T_skip_31 rfl (lv_at hl 2 rfl) ?_
      refine lv_iload_n hx hb d_T_skip_32 rfl (lv_at hl 1 rfl) ?_
      refine lv_icmp_ge (tgt := 87) hx hb d_T_skip_33 rfl (fun hq => ?_) (fun hq => ?_)
      · rw [if_pos hq] at heq
        refine W.widen (k := 1) (n := 6) (by omega) (by omega) ?_
        exact k_T_skip_b87 hc hrm x2 h0 H locs ls hR hLo (lv_sub hl [2] rfl) heq
      · rw [if_neg hq] at heq
        refine lv_aload_n hx hb d_T_skip_36 rfl (lv_at hl 0 rfl) ?_
        refine lv_iload_n hx hb d_T_skip_37 rfl (lv_at hl 1 rfl) ?_
        refine lv_iload_n hx hb d_T_skip_38 rfl (lv_at hl 2 rfl) ?_
        refine lv_isub hx hb d_T_skip_39 ?_
        refine x_ck heq (fun tt fs ha ht heq => ?_)
        obtain rfl : tt = 0 := by simpa using ht
        refine x_bI (mc := 0) (ms := 0) (st := []) hc hLo heq ⟨by omega, by omega⟩ (fun r9 h9 => x_runV hc (c_T_request hc.g rm_T_request rk_T_request _ _ _ _ h9) md_T_request hR ha rfl wd_439 wd_441 sp_4 hl.1 ml_T_request rfl (Nat.le_of_ble_eq_true rfl) d_T_skip_40 ⟨by show 81 + 1 ≤ _; omega, by show 8 + (3 + 11) + (1629) ≤ _; omega⟩ ⟨by show 1 + 0 ≤ _; omega, by show 6 + 0 ≤ _; omega⟩) (fun v1 h2 H locs hR hLo heq => ?_)
        refine lv_istore (lv' := [(4, .int v1), (0, .ref t0), (1, .int x1), (2, .int x2), (3, .int x3)]) hx hb d_T_skip_43 hl (by decide) rfl (fun ls hl => ?_)
        refine lv_iload hx hb d_T_skip_45 (lv_at hl 0 rfl) ?_
        refine lv_iconst (v := (-1)) hx hb d_T_skip_47 (by decide) ?_
        refine lv_icmp_ne (tgt := 63) hx hb d_T_skip_48 rfl (fun hq => ?_) (fun hq => ?_)
        · rw [if_neg hq] at heq
          refine W.widen (k := 1) (n := 6) (by omega) (by omega) ?_
          exact k_T_skip_b63 _ hc hrm hr26 t0 x1 x2 x3 v1 h2 H locs ls hR hLo (lv_sub hl [1, 2, 3, 4, 0] rfl) heq
        · rw [if_pos hq] at heq
          refine lv_iload_n hx hb d_T_skip_51 rfl (lv_at hl 3 rfl) ?_
          refine lv_if_ne (tgt := 63) hx hb d_T_skip_52 rfl (fun hq => ?_) (fun hq => ?_)
          · rw [if_neg hq] at heq
            refine W.widen (k := 1) (n := 6) (by omega) (by omega) ?_
            exact k_T_skip_b63 _ hc hrm hr26 t0 x1 x2 x3 v1 h2 H locs ls hR hLo (lv_sub hl [1, 2, 3, 4, 0] rfl) heq
          · rw [if_pos hq] at heq
            exact x_thr (names := ["java/lang/RuntimeException", "java/lang/Exception"]) hc hR hLo rfl (by decide +kernel) (by decide +kernel) wd_278 wd_10 tha_T_49 hl.1 d_T_skip_55 d_T_skip_58 d_T_skip_59 d_T_skip_62 ⟨by omega, by omega⟩ (by show 2 + 3 < _; omega) (by show 0 + (13 * (2 + 1) + 42) ≤ _; omega) heq
set_option maxRecDepth 100000 in
set_option maxHeartbeats 4000000 in
theorem c_T_skip {l : Launch} {s0 : State} {A0 : Array Value} {G : Gx_t} (hG : G_0 l s0 A0 G) (rm : Room) (hrm : rm_Ok 2 12 82 1651 rm) (t0 : Nat) (x1 : Int32) (h0 : Hs_t) (r : Outcome × Hs_t) (heq : f_T_skip t0 x1 h0 = some r) : M_X G s0 l y_T_skip (.code y_T_skip b_T_skip 5 (some .int)) rm [.ref t0, .int x1] h0 r := by
  refine M_X.of (by decide) hG (fun p e s m below meth c H hc hR => ?_)
  have hx := hc.x
  have hb := hc.b
  obtain ⟨hm1, hm2, hm3, hm4⟩ := id hrm
  have hLo : Lo_k s0 [] := fun _ hq => absurd hq List.not_mem_nil
  have hl := lv_entry ([.ref t0, .int x1]) (n := 5) (Nat.le_of_ble_eq_true rfl)
  rw [lg_entry_eq]
  generalize (lg_sl ([.ref t0, .int x1]) ++ List.replicate (5 - (lg_sl ([.ref t0, .int x1])).length) Slot.unset).toArray = ls at hl ⊢
  have hl : lv_has ls 5 [(0, .ref t0), (1, .int x1)] := hl
  generalize hle : ([] : List Loc) = locs at hLo ⊢
  unfold f_T_skip at heq
  refine lv_aload_n hx hb d_T_skip_0 rfl (lv_at hl 0 rfl) ?_
  refine x_ck heq (fun tt fs ha ht heq => ?_)
  obtain rfl : tt = 0 := by simpa using ht
  refine x_bV (mc := 1) (ms := 6) (st := []) hc hLo heq ⟨by omega, by omega⟩ (fun r9 h9 => x_runV hc (c_T_startReading hc.g rm_T_startReading rk_T_startReading _ _ _ h9) md_T_startReading hR ha rfl wd_427 wd_429 sp_2 hl.1 ml_T_startReading rfl (Nat.le_of_ble_eq_true rfl) d_T_skip_1 ⟨by show 7 + 1 ≤ _; omega, by show 8 + (1 + 11) + (101) ≤ _; omega⟩ ⟨by show 0 + 1 ≤ _; omega, by show 0 + 6 ≤ _; omega⟩) (fun h1 H locs hR hLo heq => ?_)
  refine lv_iload_n hx hb d_T_skip_4 rfl (lv_at hl 1 rfl) ?_
  refine lv_if_lt (tgt := 14) hx hb d_T_skip_5 rfl (fun hq => ?_) (fun hq => ?_)
  · rw [if_pos hq] at heq
    refine W.widen (k := 1) (n := 6) (by omega) (by omega) ?_
    exact k_T_skip_b14 hc hrm h1 H locs ls hR hLo (lv_sub hl [] rfl) heq
  · rw [if_neg hq] at heq
    refine lv_iload_n hx hb d_T_skip_8 rfl (lv_at hl 1 rfl) ?_
    refine lv_bipush (v := 120) hx hb d_T_skip_9 (by decide) ?_
    refine lv_icmp_le (tgt := 22) hx hb d_T_skip_11 rfl (fun hq => ?_) (fun hq => ?_)
    · rw [if_pos hq] at heq
      refine lv_iconst (v := 0) hx hb d_T_skip_22 (by decide) ?_
      refine lv_istore_n (lv' := [(2, .int 0), (0, .ref t0), (1, .int x1)]) hx hb d_T_skip_23 rfl hl (by decide) rfl (fun ls hl => ?_)
      refine lv_iconst (v := 0) hx hb d_T_skip_24 (by decide) ?_
      refine lv_istore_n (lv' := [(3, .int 0), (2, .int 0), (0, .ref t0), (1, .int x1)]) hx hb d_T_skip_25 rfl hl (by decide) rfl (fun ls hl => ?_)
      refine W.widen (k := 1) (n := 6) (by omega) (by omega) ?_
      exact k_T_skip_b26 hc hrm fu_N t0 x1 0 0 h1 H locs ls hR hLo (lv_sub hl [2, 3, 1, 0] rfl) heq
    · rw [if_neg hq] at heq
      refine W.widen (k := 1) (n := 6) (by omega) (by omega) ?_
      exact k_T_skip_b14 hc hrm h1 H locs ls hR hLo (lv_sub hl [] rfl) heq
def rm_T_skip : Room := { frames := 82, cells := 2, slots := 12, locals := 1651 }
theorem rk_T_skip : rm_Ok 2 12 82 1651 rm_T_skip := ⟨Nat.le_refl _, Nat.le_refl _, Nat.le_refl _, Nat.le_refl _⟩
def f_T_numberInBag_b5 : Nat → Nat → Int32 → Int64 → Int32 → Hs_t → Rs_t
  | 0, _, _, _, _, _ => none
  | n + 1, t0, x1, x2, x4, h0 => if x1 ≤ x4 then (re_L x2 h0) else ((fd_A [0] 3 h0 t0).bind fun v1 => (ck_T [1] h0 v1).bind fun _ => bd_I (f_Row_get v1 x4 h0) (fun v2 h1 => (f_T_numberInBag_b5 n) t0 x1 ((x2 <<< ((8 : Int32).toInt64 &&& 63)) ||| (v2 : Int32).toInt64) (x4 + 1) h1))
def f_T_numberInBag (t0 : Nat) (x1 : Int32) (h0 : Hs_t) : Rs_t := f_T_numberInBag_b5 fu_N t0 x1 0 0 h0
set_option maxRecDepth 100000 in
set_option maxHeartbeats 4000000 in
theorem k_T_numberInBag_b5 {p : Program} {l : Launch} {e : Env} {s : State} {m : MethodId} {args : Array Value} {below : List Frame} {meth : Method} {c : Code} {s0 : State} {A0 : Array Value} {G : Gx_t} {r : Outcome × Hs_t} {rm : Room} (hc : Cx_t p s m meth c s0 A0 l G y_T_numberInBag b_T_numberInBag 5 (some .long) []) (hrm : rm_Ok 0 0 1 21 rm) : ∀ (n : Nat) (t0 : Nat) (x1 : Int32) (x2 : Int64) (x4 : Int32) (h0 : Hs_t) (H : Heap) (locs : List Loc) (ls : Array Slot), Rp_h G s0.heap h0 H → Lo_k s0 locs → lv_has ls 5 [(0, .ref t0), (1, .int x1), (2, .long x2), (4, .int x4)] → f_T_numberInBag_b5 n t0 x1 x2 x4 h0 = some r → W p l e rm s m args below meth c H locs 0 0 (xq_MQ G s0 below r s rm.cells rm.slots) (F0 m 5 ls []) := by
  have hx := hc.x
  have hb := hc.b
  obtain ⟨hm1, hm2, hm3, hm4⟩ := id hrm
  intro n
  induction n with
  | zero =>
    intro t0 x1 x2 x4 h0 H locs ls hR hLo hl heq
    unfold f_T_numberInBag_b5 at heq
    cases heq
  | succ n hr5 =>
    intro t0 x1 x2 x4 h0 H locs ls hR hLo hl heq
    unfold f_T_numberInBag_b5 at heq
    refine lv_iload hx hb d_T_numberInBag_5 (lv_at hl 3 rfl) ?_
    refine lv_iload_n hx hb d_T_numberInBag_7 rfl (lv_at hl 1 rfl) ?_
    refine lv_icmp_ge (tgt := 33) hx hb d_T_numberInBag_8 rfl (fun hq => ?_) (fun hq => ?_)
    · rw [if_pos hq] at heq
      refine lv_lload_n hx hb d_T_numberInBag_33 rfl (lv_at hl 2 rfl) ?_
      exact x_lret hc hR hLo ⟨by omega, by omega⟩ heq d_T_numberInBag_34
    · rw [if_neg hq] at heq
      refine lv_lload_n hx hb d_T_numberInBag_11 rfl (lv_at hl 2 rfl) ?_
      refine lv_bipush (v := 8) hx hb d_T_numberInBag_12 (by decide) ?_
      refine lv_lshl (v := (x2 <<< ((8 : Int32).toInt64 &&& 63))) hx hb d_T_numberInBag_14 rfl ?_
      refine lv_aload_n hx hb d_T_numberInBag_15 rfl (lv_at hl 0 rfl) ?_
      refine x_gA hc hR fl_T_31 heq d_T_numberInBag_16 (fun v1 heq => ?_)
      refine lv_iload hx hb d_T_numberInBag_19 (lv_at hl 3 rfl) ?_
      refine x_ck heq (fun tt fs ha ht heq => ?_)
      obtain rfl : tt = 1 := by simpa using ht
      refine x_bI (mc := 0) (ms := 0) (st := [.long (x2 <<< ((8 : Int32).toInt64 &&& 63))]) hc hLo heq ⟨by omega, by omega⟩ (fun r9 h9 => x_runV hc (c_Row_get hc.g rm_Row_get rk_Row_get _ _ _ _ h9) md_Row_get hR ha rfl wd_197 wd_198 wd_199 hl.1 ml_Row_get rfl (Nat.le_of_ble_eq_true rfl) d_T_numberInBag_21 ⟨by show 0 + 1 ≤ _; omega, by show 8 + (2 + 11) + (0) ≤ _; omega⟩ ⟨by show 0 + 0 ≤ _; omega, by show 0 + 0 ≤ _; omega⟩) (fun v2 h1 H locs hR hLo heq => ?_)
      refine lv_i2l (v := (v2 : Int32).toInt64) hx hb d_T_numberInBag_24 rfl ?_
      refine lv_lor hx hb d_T_numberInBag_25 ?_
      refine lv_lstore_n (lv' := [(2, .long ((x2 <<< ((8 : Int32).toInt64 &&& 63)) ||| (v2 : Int32).toInt64)), (0, .ref t0), (1, .int x1), (4, .int x4)]) hx hb d_T_numberInBag_26 rfl hl (by decide) rfl (fun ls hl => ?_)
      refine lv_iinc (k := 3) (v := (x4 + 1)) (lv' := [(4, .int (x4 + 1)), (2, .long ((x2 <<< ((8 : Int32).toInt64 &&& 63)) ||| (v2 : Int32).toInt64)), (0, .ref t0), (1, .int x1)]) hx hb d_T_numberInBag_27 hl rfl rfl (by decide) rfl (fun ls hl => ?_)
      refine lv_goto (tgt := 5) hx hb d_T_numberInBag_30 rfl ?_
      refine W.widen (k := 0) (n := 0) (by omega) (by omega) ?_
      exact hr5 t0 x1 ((x2 <<< ((8 : Int32).toInt64 &&& 63)) ||| (v2 : Int32).toInt64) (x4 + 1) h1 H locs ls hR hLo (lv_sub hl [2, 3, 1, 0] rfl) heq
set_option maxRecDepth 100000 in
set_option maxHeartbeats 4000000 in
theorem c_T_numberInBag {l : Launch} {s0 : State} {A0 : Array Value} {G : Gx_t} (hG : G_0 l s0 A0 G) (rm : Room) (hrm : rm_Ok 0 0 1 21 rm) (t0 : Nat) (x1 : Int32) (h0 : Hs_t) (r : Outcome × Hs_t) (heq : f_T_numberInBag t0 x1 h0 = some r) : M_X G s0 l y_T_numberInBag (.code y_T_numberInBag b_T_numberInBag 5 (some .long)) rm [.ref t0, .int x1] h0 r := by
  refine M_X.of (by decide) hG (fun p e s m below meth c H hc hR => ?_)
  have hx := hc.x
  have hb := hc.b
  obtain ⟨hm1, hm2, hm3, hm4⟩ := id hrm
  have hLo : Lo_k s0 [] := fun _ hq => absurd hq List.not_mem_nil
  have hl := lv_entry ([.ref t0, .int x1]) (n := 5) (Nat.le_of_ble_eq_true rfl)
  rw [lg_entry_eq]
  generalize (lg_sl ([.ref t0, .int x1]) ++ List.replicate (5 - (lg_sl ([.ref t0, .int x1])).length) Slot.unset).toArray = ls at hl ⊢
  have hl : lv_has ls 5 [(0, .ref t0), (1, .int x1)] := hl
  generalize hle : ([] : List Loc) = locs at hLo ⊢
  unfold f_T_numberInBag at heq
  refine lv_lconst (v := 0) hx hb d_T_numberInBag_0 (by decide) ?_
  refine lv_lstore_n (lv' := [(2, .long 0), (0, .ref t0), (1, .int x1)]) hx hb d_T_numberInBag_1 rfl hl (by decide) rfl (fun ls hl => ?_)
  refine lv_iconst (v := 0) hx hb d_T_numberInBag_2 (by decide) ?_
  refine lv_istore (lv' := [(4, .int 0), (2, .long 0), (0, .ref t0), (1, .int x1)]) hx hb d_T_numberInBag_3 hl (by decide) rfl (fun ls hl => ?_)
  refine W.widen (k := 0) (n := 0) (by omega) (by omega) ?_
  exact k_T_numberInBag_b5 hc hrm fu_N t0 x1 0 0 h0 H locs ls hR hLo (lv_sub hl [2, 3, 1, 0] rfl) heq
def rm_T_numberInBag : Room := { frames := 1, cells := 0, slots := 0, locals := 21 }
theorem rk_T_numberInBag : rm_Ok 0 0 1 21 rm_T_numberInBag := ⟨Nat.le_refl _, Nat.le_refl _, Nat.le_refl _, Nat.le_refl _⟩
