theorem d_Buf_init_0 : decode b_Buf_init 0 = .ok (.aload_n 0, 1) := by decide +kernel
theorem d_Buf_init_1 : decode b_Buf_init 1 = .ok (.invokespecial 3, 3) := by decide +kernel
theorem d_Buf_init_4 : decode b_Buf_init 4 = .ok (.aload_n 0, 1) := by decide +kernel
theorem d_Buf_init_5 : decode b_Buf_init 5 = .ok (.aload_n 1, 1) := by decide +kernel
theorem d_Buf_init_6 : decode b_Buf_init 6 = .ok (.putfield 9, 3) := by decide +kernel
theorem d_Buf_init_9 : decode b_Buf_init 9 = .ok (.aload_n 0, 1) := by decide +kernel
theorem d_Buf_init_10 : decode b_Buf_init 10 = .ok (.iload_n 2, 1) := by decide +kernel
theorem d_Buf_init_11 : decode b_Buf_init 11 = .ok (.putfield 15, 3) := by decide +kernel
theorem d_Buf_init_14 : decode b_Buf_init 14 = .ok (.aload_n 0, 1) := by decide +kernel
theorem d_Buf_init_15 : decode b_Buf_init 15 = .ok (.bipush 32, 2) := by decide +kernel
theorem d_Buf_init_17 : decode b_Buf_init 17 = .ok (.iload_n 2, 1) := by decide +kernel
theorem d_Buf_init_18 : decode b_Buf_init 18 = .ok (.iadd, 1) := by decide +kernel
theorem d_Buf_init_19 : decode b_Buf_init 19 = .ok (.newarray .int, 2) := by decide +kernel
theorem d_Buf_init_21 : decode b_Buf_init 21 = .ok (.putfield 19, 3) := by decide +kernel
theorem d_Buf_init_24 : decode b_Buf_init 24 = .ok (.return_, 1) := by decide +kernel
theorem d_Buf_fill_0 : decode b_Buf_fill 0 = .ok (.aload_n 0, 1) := by decide +kernel
theorem d_Buf_fill_1 : decode b_Buf_fill 1 = .ok (.getfield 19, 3) := by decide +kernel
theorem d_Buf_fill_4 : decode b_Buf_fill 4 = .ok (.aload_n 0, 1) := by decide +kernel
theorem d_Buf_fill_5 : decode b_Buf_fill 5 = .ok (.getfield 56, 3) := by decide +kernel
theorem d_Buf_fill_8 : decode b_Buf_fill 8 = .ok (.aload_n 0, 1) := by decide +kernel
theorem d_Buf_fill_9 : decode b_Buf_fill 9 = .ok (.getfield 19, 3) := by decide +kernel
theorem d_Buf_fill_12 : decode b_Buf_fill 12 = .ok (.iconst 0, 1) := by decide +kernel
theorem d_Buf_fill_13 : decode b_Buf_fill 13 = .ok (.aload_n 0, 1) := by decide +kernel
theorem d_Buf_fill_14 : decode b_Buf_fill 14 = .ok (.getfield 23, 3) := by decide +kernel
theorem d_Buf_fill_17 : decode b_Buf_fill 17 = .ok (.aload_n 0, 1) := by decide +kernel
theorem d_Buf_fill_18 : decode b_Buf_fill 18 = .ok (.getfield 56, 3) := by decide +kernel
theorem d_Buf_fill_21 : decode b_Buf_fill 21 = .ok (.isub, 1) := by decide +kernel
theorem d_Buf_fill_22 : decode b_Buf_fill 22 = .ok (.invokestatic 47, 3) := by decide +kernel
theorem d_Buf_fill_25 : decode b_Buf_fill 25 = .ok (.aload_n 0, 1) := by decide +kernel
theorem d_Buf_fill_26 : decode b_Buf_fill 26 = .ok (.dup, 1) := by decide +kernel
theorem d_Buf_fill_27 : decode b_Buf_fill 27 = .ok (.getfield 23, 3) := by decide +kernel
theorem d_Buf_fill_30 : decode b_Buf_fill 30 = .ok (.aload_n 0, 1) := by decide +kernel
theorem d_Buf_fill_31 : decode b_Buf_fill 31 = .ok (.getfield 56, 3) := by decide +kernel
theorem d_Buf_fill_34 : decode b_Buf_fill 34 = .ok (.isub, 1) := by decide +kernel
theorem d_Buf_fill_35 : decode b_Buf_fill 35 = .ok (.putfield 23, 3) := by decide +kernel
theorem d_Buf_fill_38 : decode b_Buf_fill 38 = .ok (.aload_n 0, 1) := by decide +kernel
theorem d_Buf_fill_39 : decode b_Buf_fill 39 = .ok (.aload_n 0, 1) := by decide +kernel
theorem d_Buf_fill_40 : decode b_Buf_fill 40 = .ok (.getfield 23, 3) := by decide +kernel
theorem d_Buf_fill_43 : decode b_Buf_fill 43 = .ok (.putfield 26, 3) := by decide +kernel
theorem d_Buf_fill_46 : decode b_Buf_fill 46 = .ok (.aload_n 0, 1) := by decide +kernel
theorem d_Buf_fill_47 : decode b_Buf_fill 47 = .ok (.iconst 0, 1) := by decide +kernel
theorem d_Buf_fill_48 : decode b_Buf_fill 48 = .ok (.putfield 56, 3) := by decide +kernel
theorem d_Buf_fill_51 : decode b_Buf_fill 51 = .ok (.aload_n 0, 1) := by decide +kernel
theorem d_Buf_fill_52 : decode b_Buf_fill 52 = .ok (.getfield 9, 3) := by decide +kernel
theorem d_Buf_fill_55 : decode b_Buf_fill 55 = .ok (.aload_n 0, 1) := by decide +kernel
theorem d_Buf_fill_56 : decode b_Buf_fill 56 = .ok (.getfield 15, 3) := by decide +kernel
theorem d_Buf_fill_59 : decode b_Buf_fill 59 = .ok (.aload_n 0, 1) := by decide +kernel
theorem d_Buf_fill_60 : decode b_Buf_fill 60 = .ok (.getfield 19, 3) := by decide +kernel
theorem d_Buf_fill_63 : decode b_Buf_fill 63 = .ok (.aload_n 0, 1) := by decide +kernel
theorem d_Buf_fill_64 : decode b_Buf_fill 64 = .ok (.getfield 26, 3) := by decide +kernel
theorem d_Buf_fill_67 : decode b_Buf_fill 67 = .ok (.invokevirtual 33, 3) := by decide +kernel
theorem d_Buf_fill_70 : decode b_Buf_fill 70 = .ok (.istore_n 1, 1) := by decide +kernel
theorem d_Buf_fill_71 : decode b_Buf_fill 71 = .ok (.iload_n 1, 1) := by decide +kernel
theorem d_Buf_fill_72 : decode b_Buf_fill 72 = .ok (.iconst (-1), 1) := by decide +kernel
theorem d_Buf_fill_73 : decode b_Buf_fill 73 = .ok (.if_icmp .eq 13, 3) := by decide +kernel
theorem d_Buf_fill_76 : decode b_Buf_fill 76 = .ok (.aload_n 0, 1) := by decide +kernel
theorem d_Buf_fill_77 : decode b_Buf_fill 77 = .ok (.dup, 1) := by decide +kernel
theorem d_Buf_fill_78 : decode b_Buf_fill 78 = .ok (.getfield 26, 3) := by decide +kernel
theorem d_Buf_fill_81 : decode b_Buf_fill 81 = .ok (.iload_n 1, 1) := by decide +kernel
theorem d_Buf_fill_82 : decode b_Buf_fill 82 = .ok (.iadd, 1) := by decide +kernel
theorem d_Buf_fill_83 : decode b_Buf_fill 83 = .ok (.putfield 26, 3) := by decide +kernel
theorem d_Buf_fill_86 : decode b_Buf_fill 86 = .ok (.iload_n 1, 1) := by decide +kernel
theorem d_Buf_fill_87 : decode b_Buf_fill 87 = .ok (.ireturn, 1) := by decide +kernel
theorem d_Buf_forgetWhatNoMarkKeeps_0 : decode b_Buf_forgetWhatNoMarkKeeps 0 = .ok (.aload_n 0, 1) := by decide +kernel
theorem d_Buf_forgetWhatNoMarkKeeps_1 : decode b_Buf_forgetWhatNoMarkKeeps 1 = .ok (.getfield 23, 3) := by decide +kernel
theorem d_Buf_forgetWhatNoMarkKeeps_4 : decode b_Buf_forgetWhatNoMarkKeeps 4 = .ok (.aload_n 0, 1) := by decide +kernel
theorem d_Buf_forgetWhatNoMarkKeeps_5 : decode b_Buf_forgetWhatNoMarkKeeps 5 = .ok (.getfield 56, 3) := by decide +kernel
theorem d_Buf_forgetWhatNoMarkKeeps_8 : decode b_Buf_forgetWhatNoMarkKeeps 8 = .ok (.isub, 1) := by decide +kernel
theorem d_Buf_forgetWhatNoMarkKeeps_9 : decode b_Buf_forgetWhatNoMarkKeeps 9 = .ok (.aload_n 0, 1) := by decide +kernel
theorem d_Buf_forgetWhatNoMarkKeeps_10 : decode b_Buf_forgetWhatNoMarkKeeps 10 = .ok (.getfield 59, 3) := by decide +kernel
theorem d_Buf_forgetWhatNoMarkKeeps_13 : decode b_Buf_forgetWhatNoMarkKeeps 13 = .ok (.if_icmp .le 8, 3) := by decide +kernel
theorem d_Buf_forgetWhatNoMarkKeeps_16 : decode b_Buf_forgetWhatNoMarkKeeps 16 = .ok (.aload_n 0, 1) := by decide +kernel
theorem d_Buf_forgetWhatNoMarkKeeps_17 : decode b_Buf_forgetWhatNoMarkKeeps 17 = .ok (.iconst 0, 1) := by decide +kernel
theorem d_Buf_forgetWhatNoMarkKeeps_18 : decode b_Buf_forgetWhatNoMarkKeeps 18 = .ok (.putfield 29, 3) := by decide +kernel
theorem d_Buf_forgetWhatNoMarkKeeps_21 : decode b_Buf_forgetWhatNoMarkKeeps 21 = .ok (.aload_n 0, 1) := by decide +kernel
theorem d_Buf_forgetWhatNoMarkKeeps_22 : decode b_Buf_forgetWhatNoMarkKeeps 22 = .ok (.getfield 29, 3) := by decide +kernel
theorem d_Buf_forgetWhatNoMarkKeeps_25 : decode b_Buf_forgetWhatNoMarkKeeps 25 = .ok (.ifCond .ne 11, 3) := by decide +kernel
theorem d_Buf_forgetWhatNoMarkKeeps_28 : decode b_Buf_forgetWhatNoMarkKeeps 28 = .ok (.aload_n 0, 1) := by decide +kernel
theorem d_Buf_forgetWhatNoMarkKeeps_29 : decode b_Buf_forgetWhatNoMarkKeeps 29 = .ok (.aload_n 0, 1) := by decide +kernel
theorem d_Buf_forgetWhatNoMarkKeeps_30 : decode b_Buf_forgetWhatNoMarkKeeps 30 = .ok (.getfield 23, 3) := by decide +kernel
theorem d_Buf_forgetWhatNoMarkKeeps_33 : decode b_Buf_forgetWhatNoMarkKeeps 33 = .ok (.putfield 56, 3) := by decide +kernel
theorem d_Buf_forgetWhatNoMarkKeeps_36 : decode b_Buf_forgetWhatNoMarkKeeps 36 = .ok (.return_, 1) := by decide +kernel
theorem d_Buf_answer_0 : decode b_Buf_answer 0 = .ok (.aload_n 0, 1) := by decide +kernel
theorem d_Buf_answer_1 : decode b_Buf_answer 1 = .ok (.getfield 23, 3) := by decide +kernel
theorem d_Buf_answer_4 : decode b_Buf_answer 4 = .ok (.aload_n 0, 1) := by decide +kernel
theorem d_Buf_answer_5 : decode b_Buf_answer 5 = .ok (.getfield 26, 3) := by decide +kernel
theorem d_Buf_answer_8 : decode b_Buf_answer 8 = .ok (.if_icmp .ne 49, 3) := by decide +kernel
theorem d_Buf_answer_11 : decode b_Buf_answer 11 = .ok (.iload_n 1, 1) := by decide +kernel
theorem d_Buf_answer_12 : decode b_Buf_answer 12 = .ok (.aload_n 0, 1) := by decide +kernel
theorem d_Buf_answer_13 : decode b_Buf_answer 13 = .ok (.getfield 15, 3) := by decide +kernel
theorem d_Buf_answer_16 : decode b_Buf_answer 16 = .ok (.if_icmp .lt 21, 3) := by decide +kernel
theorem d_Buf_answer_19 : decode b_Buf_answer 19 = .ok (.aload_n 0, 1) := by decide +kernel
theorem d_Buf_answer_20 : decode b_Buf_answer 20 = .ok (.getfield 29, 3) := by decide +kernel
theorem d_Buf_answer_23 : decode b_Buf_answer 23 = .ok (.ifCond .ne 14, 3) := by decide +kernel
theorem d_Buf_answer_26 : decode b_Buf_answer 26 = .ok (.aload_n 0, 1) := by decide +kernel
theorem d_Buf_answer_27 : decode b_Buf_answer 27 = .ok (.getfield 9, 3) := by decide +kernel
theorem d_Buf_answer_30 : decode b_Buf_answer 30 = .ok (.iload_n 1, 1) := by decide +kernel
theorem d_Buf_answer_31 : decode b_Buf_answer 31 = .ok (.aload_n 2, 1) := by decide +kernel
theorem d_Buf_answer_32 : decode b_Buf_answer 32 = .ok (.iload_n 3, 1) := by decide +kernel
theorem d_Buf_answer_33 : decode b_Buf_answer 33 = .ok (.invokevirtual 33, 3) := by decide +kernel
theorem d_Buf_answer_36 : decode b_Buf_answer 36 = .ok (.ireturn, 1) := by decide +kernel
theorem d_Buf_answer_37 : decode b_Buf_answer 37 = .ok (.aload_n 0, 1) := by decide +kernel
theorem d_Buf_answer_38 : decode b_Buf_answer 38 = .ok (.invokevirtual 37, 3) := by decide +kernel
theorem d_Buf_answer_41 : decode b_Buf_answer 41 = .ok (.istore 4, 2) := by decide +kernel
theorem d_Buf_answer_43 : decode b_Buf_answer 43 = .ok (.iload 4, 2) := by decide +kernel
theorem d_Buf_answer_45 : decode b_Buf_answer 45 = .ok (.iconst (-1), 1) := by decide +kernel
theorem d_Buf_answer_46 : decode b_Buf_answer 46 = .ok (.if_icmp .eq 8, 3) := by decide +kernel
theorem d_Buf_answer_49 : decode b_Buf_answer 49 = .ok (.iload 4, 2) := by decide +kernel
theorem d_Buf_answer_51 : decode b_Buf_answer 51 = .ok (.ifCond .ne 6, 3) := by decide +kernel
theorem d_Buf_answer_54 : decode b_Buf_answer 54 = .ok (.iload 4, 2) := by decide +kernel
theorem d_Buf_answer_56 : decode b_Buf_answer 56 = .ok (.ireturn, 1) := by decide +kernel
theorem d_Buf_answer_57 : decode b_Buf_answer 57 = .ok (.iload_n 1, 1) := by decide +kernel
theorem d_Buf_answer_58 : decode b_Buf_answer 58 = .ok (.aload_n 0, 1) := by decide +kernel
theorem d_Buf_answer_59 : decode b_Buf_answer 59 = .ok (.getfield 26, 3) := by decide +kernel
theorem d_Buf_answer_62 : decode b_Buf_answer 62 = .ok (.aload_n 0, 1) := by decide +kernel
theorem d_Buf_answer_63 : decode b_Buf_answer 63 = .ok (.getfield 23, 3) := by decide +kernel
theorem d_Buf_answer_66 : decode b_Buf_answer 66 = .ok (.isub, 1) := by decide +kernel
theorem d_Buf_answer_67 : decode b_Buf_answer 67 = .ok (.invokestatic 41, 3) := by decide +kernel
theorem d_Buf_answer_70 : decode b_Buf_answer 70 = .ok (.istore 4, 2) := by decide +kernel
theorem d_Buf_answer_72 : decode b_Buf_answer 72 = .ok (.aload_n 0, 1) := by decide +kernel
theorem d_Buf_answer_73 : decode b_Buf_answer 73 = .ok (.getfield 19, 3) := by decide +kernel
theorem d_Buf_answer_76 : decode b_Buf_answer 76 = .ok (.aload_n 0, 1) := by decide +kernel
theorem d_Buf_answer_77 : decode b_Buf_answer 77 = .ok (.getfield 23, 3) := by decide +kernel
theorem d_Buf_answer_80 : decode b_Buf_answer 80 = .ok (.aload_n 2, 1) := by decide +kernel
theorem d_Buf_answer_81 : decode b_Buf_answer 81 = .ok (.iload_n 3, 1) := by decide +kernel
theorem d_Buf_answer_82 : decode b_Buf_answer 82 = .ok (.iload 4, 2) := by decide +kernel
theorem d_Buf_answer_84 : decode b_Buf_answer 84 = .ok (.invokestatic 47, 3) := by decide +kernel
theorem d_Buf_answer_87 : decode b_Buf_answer 87 = .ok (.aload_n 0, 1) := by decide +kernel
theorem d_Buf_answer_88 : decode b_Buf_answer 88 = .ok (.dup, 1) := by decide +kernel
theorem d_Buf_answer_89 : decode b_Buf_answer 89 = .ok (.getfield 23, 3) := by decide +kernel
theorem d_Buf_answer_92 : decode b_Buf_answer 92 = .ok (.iload 4, 2) := by decide +kernel
theorem d_Buf_answer_94 : decode b_Buf_answer 94 = .ok (.iadd, 1) := by decide +kernel
theorem d_Buf_answer_95 : decode b_Buf_answer 95 = .ok (.putfield 23, 3) := by decide +kernel
theorem d_Buf_answer_98 : decode b_Buf_answer 98 = .ok (.aload_n 0, 1) := by decide +kernel
theorem d_Buf_answer_99 : decode b_Buf_answer 99 = .ok (.invokevirtual 53, 3) := by decide +kernel
theorem d_Buf_answer_102 : decode b_Buf_answer 102 = .ok (.iload 4, 2) := by decide +kernel
theorem d_Buf_answer_104 : decode b_Buf_answer 104 = .ok (.ireturn, 1) := by decide +kernel
theorem d_Buf_ready_0 : decode b_Buf_ready 0 = .ok (.aload_n 0, 1) := by decide +kernel
theorem d_Buf_ready_1 : decode b_Buf_ready 1 = .ok (.getfield 26, 3) := by decide +kernel
theorem d_Buf_ready_4 : decode b_Buf_ready 4 = .ok (.aload_n 0, 1) := by decide +kernel
theorem d_Buf_ready_5 : decode b_Buf_ready 5 = .ok (.getfield 23, 3) := by decide +kernel
theorem d_Buf_ready_8 : decode b_Buf_ready 8 = .ok (.isub, 1) := by decide +kernel
theorem d_Buf_ready_9 : decode b_Buf_ready 9 = .ok (.aload_n 0, 1) := by decide +kernel
theorem d_Buf_ready_10 : decode b_Buf_ready 10 = .ok (.getfield 9, 3) := by decide +kernel
theorem d_Buf_ready_13 : decode b_Buf_ready 13 = .ok (.invokevirtual 62, 3) := by decide +kernel
theorem d_Buf_ready_16 : decode b_Buf_ready 16 = .ok (.iadd, 1) := by decide +kernel
theorem d_Buf_ready_17 : decode b_Buf_ready 17 = .ok (.ireturn, 1) := by decide +kernel
theorem d_Buf_state_0 : decode b_Buf_state 0 = .ok (.aload_n 0, 1) := by decide +kernel
theorem d_Buf_state_1 : decode b_Buf_state 1 = .ok (.getfield 26, 3) := by decide +kernel
theorem d_Buf_state_4 : decode b_Buf_state 4 = .ok (.aload_n 0, 1) := by decide +kernel
theorem d_Buf_state_5 : decode b_Buf_state 5 = .ok (.getfield 23, 3) := by decide +kernel
theorem d_Buf_state_8 : decode b_Buf_state 8 = .ok (.isub, 1) := by decide +kernel
theorem d_Buf_state_9 : decode b_Buf_state 9 = .ok (.ireturn, 1) := by decide +kernel
theorem d_Buf_canBeMarked_0 : decode b_Buf_canBeMarked 0 = .ok (.iconst 1, 1) := by decide +kernel
theorem d_Buf_canBeMarked_1 : decode b_Buf_canBeMarked 1 = .ok (.ireturn, 1) := by decide +kernel
theorem d_Buf_hasMark_0 : decode b_Buf_hasMark 0 = .ok (.aload_n 0, 1) := by decide +kernel
theorem d_Buf_hasMark_1 : decode b_Buf_hasMark 1 = .ok (.getfield 29, 3) := by decide +kernel
theorem d_Buf_hasMark_4 : decode b_Buf_hasMark 4 = .ok (.ireturn, 1) := by decide +kernel
theorem d_Buf_takeMark_0 : decode b_Buf_takeMark 0 = .ok (.aload_n 0, 1) := by decide +kernel
theorem d_Buf_takeMark_1 : decode b_Buf_takeMark 1 = .ok (.iconst 1, 1) := by decide +kernel
theorem d_Buf_takeMark_2 : decode b_Buf_takeMark 2 = .ok (.putfield 29, 3) := by decide +kernel
theorem d_Buf_takeMark_5 : decode b_Buf_takeMark 5 = .ok (.aload_n 0, 1) := by decide +kernel
theorem d_Buf_takeMark_6 : decode b_Buf_takeMark 6 = .ok (.iload_n 1, 1) := by decide +kernel
theorem d_Buf_takeMark_7 : decode b_Buf_takeMark 7 = .ok (.putfield 59, 3) := by decide +kernel
theorem d_Buf_takeMark_10 : decode b_Buf_takeMark 10 = .ok (.aload_n 0, 1) := by decide +kernel
theorem d_Buf_takeMark_11 : decode b_Buf_takeMark 11 = .ok (.aload_n 0, 1) := by decide +kernel
theorem d_Buf_takeMark_12 : decode b_Buf_takeMark 12 = .ok (.getfield 23, 3) := by decide +kernel
theorem d_Buf_takeMark_15 : decode b_Buf_takeMark 15 = .ok (.putfield 56, 3) := by decide +kernel
theorem d_Buf_takeMark_18 : decode b_Buf_takeMark 18 = .ok (.return_, 1) := by decide +kernel
theorem d_Buf_goBack_0 : decode b_Buf_goBack 0 = .ok (.aload_n 0, 1) := by decide +kernel
theorem d_Buf_goBack_1 : decode b_Buf_goBack 1 = .ok (.aload_n 0, 1) := by decide +kernel
theorem d_Buf_goBack_2 : decode b_Buf_goBack 2 = .ok (.getfield 56, 3) := by decide +kernel
theorem d_Buf_goBack_5 : decode b_Buf_goBack 5 = .ok (.putfield 23, 3) := by decide +kernel
theorem d_Buf_goBack_8 : decode b_Buf_goBack 8 = .ok (.return_, 1) := by decide +kernel
theorem d_Pas_init_0 : decode b_Pas_init 0 = .ok (.aload_n 0, 1) := by decide +kernel
theorem d_Pas_init_1 : decode b_Pas_init 1 = .ok (.invokespecial 1, 3) := by decide +kernel
theorem d_Pas_init_4 : decode b_Pas_init 4 = .ok (.aload_n 0, 1) := by decide +kernel
theorem d_Pas_init_5 : decode b_Pas_init 5 = .ok (.aload_n 1, 1) := by decide +kernel
theorem d_Pas_init_6 : decode b_Pas_init 6 = .ok (.putfield 7, 3) := by decide +kernel
theorem d_Pas_init_9 : decode b_Pas_init 9 = .ok (.return_, 1) := by decide +kernel
theorem d_Cod_init_0 : decode b_Cod_init 0 = .ok (.aload_n 0, 1) := by decide +kernel
theorem d_Cod_init_1 : decode b_Cod_init 1 = .ok (.aload_n 1, 1) := by decide +kernel
theorem d_Cod_init_2 : decode b_Cod_init 2 = .ok (.invokespecial 3, 3) := by decide +kernel
theorem d_Cod_init_5 : decode b_Cod_init 5 = .ok (.aload_n 0, 1) := by decide +kernel
theorem d_Cod_init_6 : decode b_Cod_init 6 = .ok (.iload_n 2, 1) := by decide +kernel
theorem d_Cod_init_7 : decode b_Cod_init 7 = .ok (.putfield 9, 3) := by decide +kernel
theorem d_Cod_init_10 : decode b_Cod_init 10 = .ok (.return_, 1) := by decide +kernel
theorem d_Cod_answer_0 : decode b_Cod_answer 0 = .ok (.aload_n 0, 1) := by decide +kernel
theorem d_Cod_answer_1 : decode b_Cod_answer 1 = .ok (.getfield 15, 3) := by decide +kernel
theorem d_Cod_answer_4 : decode b_Cod_answer 4 = .ok (.iload_n 1, 1) := by decide +kernel
theorem d_Cod_answer_5 : decode b_Cod_answer 5 = .ok (.aload_n 2, 1) := by decide +kernel
theorem d_Cod_answer_6 : decode b_Cod_answer 6 = .ok (.iload_n 3, 1) := by decide +kernel
theorem d_Cod_answer_7 : decode b_Cod_answer 7 = .ok (.invokevirtual 19, 3) := by decide +kernel
theorem d_Cod_answer_10 : decode b_Cod_answer 10 = .ok (.istore 4, 2) := by decide +kernel
theorem d_Cod_answer_12 : decode b_Cod_answer 12 = .ok (.iconst 0, 1) := by decide +kernel
theorem d_Cod_answer_13 : decode b_Cod_answer 13 = .ok (.istore 5, 2) := by decide +kernel
theorem d_Cod_answer_15 : decode b_Cod_answer 15 = .ok (.iload 5, 2) := by decide +kernel
theorem d_Cod_answer_17 : decode b_Cod_answer 17 = .ok (.iload 4, 2) := by decide +kernel
theorem d_Cod_answer_19 : decode b_Cod_answer 19 = .ok (.if_icmp .ge 41, 3) := by decide +kernel
theorem d_Cod_answer_22 : decode b_Cod_answer 22 = .ok (.aload_n 2, 1) := by decide +kernel
theorem d_Cod_answer_23 : decode b_Cod_answer 23 = .ok (.iload_n 3, 1) := by decide +kernel
theorem d_Cod_answer_24 : decode b_Cod_answer 24 = .ok (.iload 5, 2) := by decide +kernel
theorem d_Cod_answer_26 : decode b_Cod_answer 26 = .ok (.iadd, 1) := by decide +kernel
theorem d_Cod_answer_27 : decode b_Cod_answer 27 = .ok (.dup2, 1) := by decide +kernel
theorem d_Cod_answer_28 : decode b_Cod_answer 28 = .ok (.iaload, 1) := by decide +kernel
theorem d_Cod_answer_29 : decode b_Cod_answer 29 = .ok (.aload_n 0, 1) := by decide +kernel
theorem d_Cod_answer_30 : decode b_Cod_answer 30 = .ok (.getfield 9, 3) := by decide +kernel
theorem d_Cod_answer_33 : decode b_Cod_answer 33 = .ok (.aload_n 0, 1) := by decide +kernel
theorem d_Cod_answer_34 : decode b_Cod_answer 34 = .ok (.getfield 25, 3) := by decide +kernel
theorem d_Cod_answer_37 : decode b_Cod_answer 37 = .ok (.iadd, 1) := by decide +kernel
theorem d_Cod_answer_38 : decode b_Cod_answer 38 = .ok (.sipush 255, 3) := by decide +kernel
theorem d_Cod_answer_41 : decode b_Cod_answer 41 = .ok (.iand, 1) := by decide +kernel
theorem d_Cod_answer_42 : decode b_Cod_answer 42 = .ok (.ixor, 1) := by decide +kernel
theorem d_Cod_answer_43 : decode b_Cod_answer 43 = .ok (.iastore, 1) := by decide +kernel
theorem d_Cod_answer_44 : decode b_Cod_answer 44 = .ok (.aload_n 0, 1) := by decide +kernel
theorem d_Cod_answer_45 : decode b_Cod_answer 45 = .ok (.dup, 1) := by decide +kernel
theorem d_Cod_answer_46 : decode b_Cod_answer 46 = .ok (.getfield 25, 3) := by decide +kernel
theorem d_Cod_answer_49 : decode b_Cod_answer 49 = .ok (.iconst 1, 1) := by decide +kernel
theorem d_Cod_answer_50 : decode b_Cod_answer 50 = .ok (.iadd, 1) := by decide +kernel
theorem d_Cod_answer_51 : decode b_Cod_answer 51 = .ok (.putfield 25, 3) := by decide +kernel
theorem d_Cod_answer_54 : decode b_Cod_answer 54 = .ok (.iinc 5 1, 3) := by decide +kernel
theorem d_Cod_answer_57 : decode b_Cod_answer 57 = .ok (.goto (-42), 3) := by decide +kernel
theorem d_Cod_answer_60 : decode b_Cod_answer 60 = .ok (.iload 4, 2) := by decide +kernel
theorem d_Cod_answer_62 : decode b_Cod_answer 62 = .ok (.ireturn, 1) := by decide +kernel
theorem d_Cod_state_0 : decode b_Cod_state 0 = .ok (.aload_n 0, 1) := by decide +kernel
theorem d_Cod_state_1 : decode b_Cod_state 1 = .ok (.getfield 25, 3) := by decide +kernel
theorem d_Cod_state_4 : decode b_Cod_state 4 = .ok (.ireturn, 1) := by decide +kernel
theorem d_Cod_remember_0 : decode b_Cod_remember 0 = .ok (.aload_n 0, 1) := by decide +kernel
theorem d_Cod_remember_1 : decode b_Cod_remember 1 = .ok (.aload_n 0, 1) := by decide +kernel
theorem d_Cod_remember_2 : decode b_Cod_remember 2 = .ok (.getfield 25, 3) := by decide +kernel
theorem d_Cod_remember_5 : decode b_Cod_remember 5 = .ok (.putfield 28, 3) := by decide +kernel
theorem d_Cod_remember_8 : decode b_Cod_remember 8 = .ok (.return_, 1) := by decide +kernel
theorem d_Cod_recall_0 : decode b_Cod_recall 0 = .ok (.aload_n 0, 1) := by decide +kernel
theorem d_Cod_recall_1 : decode b_Cod_recall 1 = .ok (.aload_n 0, 1) := by decide +kernel
theorem d_Cod_recall_2 : decode b_Cod_recall 2 = .ok (.getfield 28, 3) := by decide +kernel
theorem d_Cod_recall_5 : decode b_Cod_recall 5 = .ok (.putfield 25, 3) := by decide +kernel
theorem d_Cod_recall_8 : decode b_Cod_recall 8 = .ok (.return_, 1) := by decide +kernel
theorem d_Lim_init_0 : decode b_Lim_init 0 = .ok (.aload_n 0, 1) := by decide +kernel
theorem d_Lim_init_1 : decode b_Lim_init 1 = .ok (.aload_n 1, 1) := by decide +kernel
theorem d_Lim_init_2 : decode b_Lim_init 2 = .ok (.invokespecial 3, 3) := by decide +kernel
theorem d_Lim_init_5 : decode b_Lim_init 5 = .ok (.aload_n 0, 1) := by decide +kernel
theorem d_Lim_init_6 : decode b_Lim_init 6 = .ok (.iload_n 2, 1) := by decide +kernel
theorem d_Lim_init_7 : decode b_Lim_init 7 = .ok (.putfield 9, 3) := by decide +kernel
theorem d_Lim_init_10 : decode b_Lim_init 10 = .ok (.aload_n 0, 1) := by decide +kernel
theorem d_Lim_init_11 : decode b_Lim_init 11 = .ok (.iload_n 2, 1) := by decide +kernel
theorem d_Lim_init_12 : decode b_Lim_init 12 = .ok (.putfield 15, 3) := by decide +kernel
theorem d_Lim_init_15 : decode b_Lim_init 15 = .ok (.return_, 1) := by decide +kernel
theorem d_Lim_answer_0 : decode b_Lim_answer 0 = .ok (.aload_n 0, 1) := by decide +kernel
theorem d_Lim_answer_1 : decode b_Lim_answer 1 = .ok (.getfield 9, 3) := by decide +kernel
theorem d_Lim_answer_4 : decode b_Lim_answer 4 = .ok (.ifCond .ne 5, 3) := by decide +kernel
theorem d_Lim_answer_7 : decode b_Lim_answer 7 = .ok (.iconst 0, 1) := by decide +kernel
theorem d_Lim_answer_8 : decode b_Lim_answer 8 = .ok (.ireturn, 1) := by decide +kernel
theorem d_Lim_answer_9 : decode b_Lim_answer 9 = .ok (.aload_n 0, 1) := by decide +kernel
theorem d_Lim_answer_10 : decode b_Lim_answer 10 = .ok (.getfield 18, 3) := by decide +kernel
theorem d_Lim_answer_13 : decode b_Lim_answer 13 = .ok (.iload_n 1, 1) := by decide +kernel
theorem d_Lim_answer_14 : decode b_Lim_answer 14 = .ok (.aload_n 0, 1) := by decide +kernel
theorem d_Lim_answer_15 : decode b_Lim_answer 15 = .ok (.getfield 9, 3) := by decide +kernel
theorem d_Lim_answer_18 : decode b_Lim_answer 18 = .ok (.invokestatic 22, 3) := by decide +kernel
theorem d_Lim_answer_21 : decode b_Lim_answer 21 = .ok (.aload_n 2, 1) := by decide +kernel
theorem d_Lim_answer_22 : decode b_Lim_answer 22 = .ok (.iload_n 3, 1) := by decide +kernel
theorem d_Lim_answer_23 : decode b_Lim_answer 23 = .ok (.invokevirtual 28, 3) := by decide +kernel
theorem d_Lim_answer_26 : decode b_Lim_answer 26 = .ok (.istore 4, 2) := by decide +kernel
theorem d_Lim_answer_28 : decode b_Lim_answer 28 = .ok (.iload 4, 2) := by decide +kernel
theorem d_Lim_answer_30 : decode b_Lim_answer 30 = .ok (.iconst (-1), 1) := by decide +kernel
theorem d_Lim_answer_31 : decode b_Lim_answer 31 = .ok (.if_icmp .eq 14, 3) := by decide +kernel
theorem d_Lim_answer_34 : decode b_Lim_answer 34 = .ok (.aload_n 0, 1) := by decide +kernel
theorem d_Lim_answer_35 : decode b_Lim_answer 35 = .ok (.dup, 1) := by decide +kernel
theorem d_Lim_answer_36 : decode b_Lim_answer 36 = .ok (.getfield 9, 3) := by decide +kernel
theorem d_Lim_answer_39 : decode b_Lim_answer 39 = .ok (.iload 4, 2) := by decide +kernel
theorem d_Lim_answer_41 : decode b_Lim_answer 41 = .ok (.isub, 1) := by decide +kernel
theorem d_Lim_answer_42 : decode b_Lim_answer 42 = .ok (.putfield 9, 3) := by decide +kernel
theorem d_Lim_answer_45 : decode b_Lim_answer 45 = .ok (.iload 4, 2) := by decide +kernel
theorem d_Lim_answer_47 : decode b_Lim_answer 47 = .ok (.ireturn, 1) := by decide +kernel
theorem d_Lim_ready_0 : decode b_Lim_ready 0 = .ok (.aload_n 0, 1) := by decide +kernel
theorem d_Lim_ready_1 : decode b_Lim_ready 1 = .ok (.getfield 9, 3) := by decide +kernel
theorem d_Lim_ready_4 : decode b_Lim_ready 4 = .ok (.aload_n 0, 1) := by decide +kernel
theorem d_Lim_ready_5 : decode b_Lim_ready 5 = .ok (.getfield 18, 3) := by decide +kernel
theorem d_Lim_ready_8 : decode b_Lim_ready 8 = .ok (.invokevirtual 34, 3) := by decide +kernel
theorem d_Lim_ready_11 : decode b_Lim_ready 11 = .ok (.invokestatic 22, 3) := by decide +kernel
theorem d_Lim_ready_14 : decode b_Lim_ready 14 = .ok (.ireturn, 1) := by decide +kernel
theorem d_Lim_state_0 : decode b_Lim_state 0 = .ok (.aload_n 0, 1) := by decide +kernel
theorem d_Lim_state_1 : decode b_Lim_state 1 = .ok (.getfield 9, 3) := by decide +kernel
theorem d_Lim_state_4 : decode b_Lim_state 4 = .ok (.ireturn, 1) := by decide +kernel
theorem d_Lim_remember_0 : decode b_Lim_remember 0 = .ok (.aload_n 0, 1) := by decide +kernel
theorem d_Lim_remember_1 : decode b_Lim_remember 1 = .ok (.aload_n 0, 1) := by decide +kernel
theorem d_Lim_remember_2 : decode b_Lim_remember 2 = .ok (.getfield 9, 3) := by decide +kernel
theorem d_Lim_remember_5 : decode b_Lim_remember 5 = .ok (.putfield 15, 3) := by decide +kernel
theorem d_Lim_remember_8 : decode b_Lim_remember 8 = .ok (.return_, 1) := by decide +kernel
theorem d_Lim_recall_0 : decode b_Lim_recall 0 = .ok (.aload_n 0, 1) := by decide +kernel
theorem d_Lim_recall_1 : decode b_Lim_recall 1 = .ok (.aload_n 0, 1) := by decide +kernel
theorem d_Lim_recall_2 : decode b_Lim_recall 2 = .ok (.getfield 15, 3) := by decide +kernel
theorem d_Lim_recall_5 : decode b_Lim_recall 5 = .ok (.putfield 9, 3) := by decide +kernel
theorem d_Lim_recall_8 : decode b_Lim_recall 8 = .ok (.return_, 1) := by decide +kernel
theorem d_Lin_init_0 : decode b_Lin_init 0 = .ok (.aload_n 0, 1) := by decide +kernel
theorem d_Lin_init_1 : decode b_Lin_init 1 = .ok (.aload_n 1, 1) := by decide +kernel
theorem d_Lin_init_2 : decode b_Lin_init 2 = .ok (.invokespecial 3, 3) := by decide +kernel
theorem d_Lin_init_5 : decode b_Lin_init 5 = .ok (.return_, 1) := by decide +kernel
theorem d_Lin_countLineEnd_0 : decode b_Lin_countLineEnd 0 = .ok (.iload_n 1, 1) := by decide +kernel
theorem d_Lin_countLineEnd_1 : decode b_Lin_countLineEnd 1 = .ok (.bipush 13, 2) := by decide +kernel
theorem d_Lin_countLineEnd_3 : decode b_Lin_countLineEnd 3 = .ok (.if_icmp .eq 16, 3) := by decide +kernel
theorem d_Lin_countLineEnd_6 : decode b_Lin_countLineEnd 6 = .ok (.iload_n 1, 1) := by decide +kernel
theorem d_Lin_countLineEnd_7 : decode b_Lin_countLineEnd 7 = .ok (.bipush 10, 2) := by decide +kernel
theorem d_Lin_countLineEnd_9 : decode b_Lin_countLineEnd 9 = .ok (.if_icmp .ne 20, 3) := by decide +kernel
theorem d_Lin_countLineEnd_12 : decode b_Lin_countLineEnd 12 = .ok (.aload_n 0, 1) := by decide +kernel
theorem d_Lin_countLineEnd_13 : decode b_Lin_countLineEnd 13 = .ok (.getfield 25, 3) := by decide +kernel
theorem d_Lin_countLineEnd_16 : decode b_Lin_countLineEnd 16 = .ok (.ifCond .ne 13, 3) := by decide +kernel
theorem d_Lin_countLineEnd_19 : decode b_Lin_countLineEnd 19 = .ok (.aload_n 0, 1) := by decide +kernel
theorem d_Lin_countLineEnd_20 : decode b_Lin_countLineEnd 20 = .ok (.dup, 1) := by decide +kernel
theorem d_Lin_countLineEnd_21 : decode b_Lin_countLineEnd 21 = .ok (.getfield 29, 3) := by decide +kernel
theorem d_Lin_countLineEnd_24 : decode b_Lin_countLineEnd 24 = .ok (.iconst 1, 1) := by decide +kernel
theorem d_Lin_countLineEnd_25 : decode b_Lin_countLineEnd 25 = .ok (.iadd, 1) := by decide +kernel
theorem d_Lin_countLineEnd_26 : decode b_Lin_countLineEnd 26 = .ok (.putfield 29, 3) := by decide +kernel
theorem d_Lin_countLineEnd_29 : decode b_Lin_countLineEnd 29 = .ok (.aload_n 0, 1) := by decide +kernel
theorem d_Lin_countLineEnd_30 : decode b_Lin_countLineEnd 30 = .ok (.iload_n 1, 1) := by decide +kernel
theorem d_Lin_countLineEnd_31 : decode b_Lin_countLineEnd 31 = .ok (.bipush 13, 2) := by decide +kernel
theorem d_Lin_countLineEnd_33 : decode b_Lin_countLineEnd 33 = .ok (.if_icmp .ne 7, 3) := by decide +kernel
theorem d_Lin_countLineEnd_36 : decode b_Lin_countLineEnd 36 = .ok (.iconst 1, 1) := by decide +kernel
theorem d_Lin_countLineEnd_37 : decode b_Lin_countLineEnd 37 = .ok (.goto 4, 3) := by decide +kernel
theorem d_Lin_countLineEnd_40 : decode b_Lin_countLineEnd 40 = .ok (.iconst 0, 1) := by decide +kernel
theorem d_Lin_countLineEnd_41 : decode b_Lin_countLineEnd 41 = .ok (.putfield 25, 3) := by decide +kernel
theorem d_Lin_countLineEnd_44 : decode b_Lin_countLineEnd 44 = .ok (.return_, 1) := by decide +kernel
theorem d_Lin_answer_0 : decode b_Lin_answer 0 = .ok (.aload_n 0, 1) := by decide +kernel
theorem d_Lin_answer_1 : decode b_Lin_answer 1 = .ok (.getfield 9, 3) := by decide +kernel
theorem d_Lin_answer_4 : decode b_Lin_answer 4 = .ok (.iload_n 1, 1) := by decide +kernel
theorem d_Lin_answer_5 : decode b_Lin_answer 5 = .ok (.aload_n 2, 1) := by decide +kernel
theorem d_Lin_answer_6 : decode b_Lin_answer 6 = .ok (.iload_n 3, 1) := by decide +kernel
theorem d_Lin_answer_7 : decode b_Lin_answer 7 = .ok (.invokevirtual 15, 3) := by decide +kernel
theorem d_Lin_answer_10 : decode b_Lin_answer 10 = .ok (.istore 4, 2) := by decide +kernel
theorem d_Lin_answer_12 : decode b_Lin_answer 12 = .ok (.iconst 0, 1) := by decide +kernel
theorem d_Lin_answer_13 : decode b_Lin_answer 13 = .ok (.istore 5, 2) := by decide +kernel
theorem d_Lin_answer_15 : decode b_Lin_answer 15 = .ok (.iload 5, 2) := by decide +kernel
theorem d_Lin_answer_17 : decode b_Lin_answer 17 = .ok (.iload 4, 2) := by decide +kernel
theorem d_Lin_answer_19 : decode b_Lin_answer 19 = .ok (.if_icmp .ge 19, 3) := by decide +kernel
theorem d_Lin_answer_22 : decode b_Lin_answer 22 = .ok (.aload_n 0, 1) := by decide +kernel
theorem d_Lin_answer_23 : decode b_Lin_answer 23 = .ok (.aload_n 2, 1) := by decide +kernel
theorem d_Lin_answer_24 : decode b_Lin_answer 24 = .ok (.iload_n 3, 1) := by decide +kernel
theorem d_Lin_answer_25 : decode b_Lin_answer 25 = .ok (.iload 5, 2) := by decide +kernel
theorem d_Lin_answer_27 : decode b_Lin_answer 27 = .ok (.iadd, 1) := by decide +kernel
theorem d_Lin_answer_28 : decode b_Lin_answer 28 = .ok (.iaload, 1) := by decide +kernel
theorem d_Lin_answer_29 : decode b_Lin_answer 29 = .ok (.invokevirtual 21, 3) := by decide +kernel
theorem d_Lin_answer_32 : decode b_Lin_answer 32 = .ok (.iinc 5 1, 3) := by decide +kernel
theorem d_Lin_answer_35 : decode b_Lin_answer 35 = .ok (.goto (-20), 3) := by decide +kernel
theorem d_Lin_answer_38 : decode b_Lin_answer 38 = .ok (.iload 4, 2) := by decide +kernel
theorem d_Lin_answer_40 : decode b_Lin_answer 40 = .ok (.ireturn, 1) := by decide +kernel
theorem d_Lin_state_0 : decode b_Lin_state 0 = .ok (.aload_n 0, 1) := by decide +kernel
theorem d_Lin_state_1 : decode b_Lin_state 1 = .ok (.getfield 29, 3) := by decide +kernel
theorem d_Lin_state_4 : decode b_Lin_state 4 = .ok (.ireturn, 1) := by decide +kernel
theorem d_Lin_remember_0 : decode b_Lin_remember 0 = .ok (.aload_n 0, 1) := by decide +kernel
theorem d_Lin_remember_1 : decode b_Lin_remember 1 = .ok (.aload_n 0, 1) := by decide +kernel
theorem d_Lin_remember_2 : decode b_Lin_remember 2 = .ok (.getfield 29, 3) := by decide +kernel
theorem d_Lin_remember_5 : decode b_Lin_remember 5 = .ok (.putfield 33, 3) := by decide +kernel
theorem d_Lin_remember_8 : decode b_Lin_remember 8 = .ok (.aload_n 0, 1) := by decide +kernel
theorem d_Lin_remember_9 : decode b_Lin_remember 9 = .ok (.aload_n 0, 1) := by decide +kernel
theorem d_Lin_remember_10 : decode b_Lin_remember 10 = .ok (.getfield 25, 3) := by decide +kernel
theorem d_Lin_remember_13 : decode b_Lin_remember 13 = .ok (.putfield 36, 3) := by decide +kernel
theorem d_Lin_remember_16 : decode b_Lin_remember 16 = .ok (.return_, 1) := by decide +kernel
theorem d_Lin_recall_0 : decode b_Lin_recall 0 = .ok (.aload_n 0, 1) := by decide +kernel
theorem d_Lin_recall_1 : decode b_Lin_recall 1 = .ok (.aload_n 0, 1) := by decide +kernel
theorem d_Lin_recall_2 : decode b_Lin_recall 2 = .ok (.getfield 33, 3) := by decide +kernel
theorem d_Lin_recall_5 : decode b_Lin_recall 5 = .ok (.putfield 29, 3) := by decide +kernel
theorem d_Lin_recall_8 : decode b_Lin_recall 8 = .ok (.aload_n 0, 1) := by decide +kernel
theorem d_Lin_recall_9 : decode b_Lin_recall 9 = .ok (.aload_n 0, 1) := by decide +kernel
theorem d_Lin_recall_10 : decode b_Lin_recall 10 = .ok (.getfield 36, 3) := by decide +kernel
theorem d_Lin_recall_13 : decode b_Lin_recall 13 = .ok (.putfield 25, 3) := by decide +kernel
theorem d_Lin_recall_16 : decode b_Lin_recall 16 = .ok (.return_, 1) := by decide +kernel
theorem d_Pas_ready_0 : decode b_Pas_ready 0 = .ok (.aload_n 0, 1) := by decide +kernel
theorem d_Pas_ready_1 : decode b_Pas_ready 1 = .ok (.getfield 7, 3) := by decide +kernel
theorem d_Pas_ready_4 : decode b_Pas_ready 4 = .ok (.invokevirtual 13, 3) := by decide +kernel
theorem d_Pas_ready_7 : decode b_Pas_ready 7 = .ok (.ireturn, 1) := by decide +kernel
theorem d_Pas_canBeMarked_0 : decode b_Pas_canBeMarked 0 = .ok (.aload_n 0, 1) := by decide +kernel
theorem d_Pas_canBeMarked_1 : decode b_Pas_canBeMarked 1 = .ok (.getfield 7, 3) := by decide +kernel
theorem d_Pas_canBeMarked_4 : decode b_Pas_canBeMarked 4 = .ok (.invokevirtual 17, 3) := by decide +kernel
theorem d_Pas_canBeMarked_7 : decode b_Pas_canBeMarked 7 = .ok (.ireturn, 1) := by decide +kernel
theorem d_Pas_hasMark_0 : decode b_Pas_hasMark 0 = .ok (.aload_n 0, 1) := by decide +kernel
theorem d_Pas_hasMark_1 : decode b_Pas_hasMark 1 = .ok (.getfield 7, 3) := by decide +kernel
theorem d_Pas_hasMark_4 : decode b_Pas_hasMark 4 = .ok (.invokevirtual 21, 3) := by decide +kernel
theorem d_Pas_hasMark_7 : decode b_Pas_hasMark 7 = .ok (.ireturn, 1) := by decide +kernel
theorem d_Pas_takeMark_0 : decode b_Pas_takeMark 0 = .ok (.aload_n 0, 1) := by decide +kernel
theorem d_Pas_takeMark_1 : decode b_Pas_takeMark 1 = .ok (.getfield 7, 3) := by decide +kernel
theorem d_Pas_takeMark_4 : decode b_Pas_takeMark 4 = .ok (.iload_n 1, 1) := by decide +kernel
theorem d_Pas_takeMark_5 : decode b_Pas_takeMark 5 = .ok (.invokevirtual 24, 3) := by decide +kernel
theorem d_Pas_takeMark_8 : decode b_Pas_takeMark 8 = .ok (.aload_n 0, 1) := by decide +kernel
theorem d_Pas_takeMark_9 : decode b_Pas_takeMark 9 = .ok (.invokevirtual 28, 3) := by decide +kernel
theorem d_Pas_takeMark_12 : decode b_Pas_takeMark 12 = .ok (.return_, 1) := by decide +kernel
theorem d_Pas_goBack_0 : decode b_Pas_goBack 0 = .ok (.aload_n 0, 1) := by decide +kernel
theorem d_Pas_goBack_1 : decode b_Pas_goBack 1 = .ok (.getfield 7, 3) := by decide +kernel
theorem d_Pas_goBack_4 : decode b_Pas_goBack 4 = .ok (.invokevirtual 31, 3) := by decide +kernel
theorem d_Pas_goBack_7 : decode b_Pas_goBack 7 = .ok (.aload_n 0, 1) := by decide +kernel
theorem d_Pas_goBack_8 : decode b_Pas_goBack 8 = .ok (.invokevirtual 34, 3) := by decide +kernel
theorem d_Pas_goBack_11 : decode b_Pas_goBack 11 = .ok (.return_, 1) := by decide +kernel
theorem d_Psh_init_0 : decode b_Psh_init 0 = .ok (.aload_n 0, 1) := by decide +kernel
theorem d_Psh_init_1 : decode b_Psh_init 1 = .ok (.invokespecial 1, 3) := by decide +kernel
theorem d_Psh_init_4 : decode b_Psh_init 4 = .ok (.aload_n 0, 1) := by decide +kernel
theorem d_Psh_init_5 : decode b_Psh_init 5 = .ok (.aload_n 1, 1) := by decide +kernel
theorem d_Psh_init_6 : decode b_Psh_init 6 = .ok (.putfield 7, 3) := by decide +kernel
theorem d_Psh_init_9 : decode b_Psh_init 9 = .ok (.aload_n 0, 1) := by decide +kernel
theorem d_Psh_init_10 : decode b_Psh_init 10 = .ok (.iload_n 2, 1) := by decide +kernel
theorem d_Psh_init_11 : decode b_Psh_init 11 = .ok (.newarray .int, 2) := by decide +kernel
theorem d_Psh_init_13 : decode b_Psh_init 13 = .ok (.putfield 13, 3) := by decide +kernel
theorem d_Psh_init_16 : decode b_Psh_init 16 = .ok (.return_, 1) := by decide +kernel
theorem d_Psh_putBack_0 : decode b_Psh_putBack 0 = .ok (.aload_n 0, 1) := by decide +kernel
theorem d_Psh_putBack_1 : decode b_Psh_putBack 1 = .ok (.getfield 17, 3) := by decide +kernel
theorem d_Psh_putBack_4 : decode b_Psh_putBack 4 = .ok (.aload_n 0, 1) := by decide +kernel
theorem d_Psh_putBack_5 : decode b_Psh_putBack 5 = .ok (.getfield 13, 3) := by decide +kernel
theorem d_Psh_putBack_8 : decode b_Psh_putBack 8 = .ok (.arraylength, 1) := by decide +kernel
theorem d_Psh_putBack_9 : decode b_Psh_putBack 9 = .ok (.if_icmp .lt 5, 3) := by decide +kernel
theorem d_Psh_putBack_12 : decode b_Psh_putBack 12 = .ok (.iconst 0, 1) := by decide +kernel
theorem d_Psh_putBack_13 : decode b_Psh_putBack 13 = .ok (.ireturn, 1) := by decide +kernel
theorem d_Psh_putBack_14 : decode b_Psh_putBack 14 = .ok (.aload_n 0, 1) := by decide +kernel
theorem d_Psh_putBack_15 : decode b_Psh_putBack 15 = .ok (.getfield 13, 3) := by decide +kernel
theorem d_Psh_putBack_18 : decode b_Psh_putBack 18 = .ok (.aload_n 0, 1) := by decide +kernel
theorem d_Psh_putBack_19 : decode b_Psh_putBack 19 = .ok (.getfield 17, 3) := by decide +kernel
theorem d_Psh_putBack_22 : decode b_Psh_putBack 22 = .ok (.iload_n 1, 1) := by decide +kernel
theorem d_Psh_putBack_23 : decode b_Psh_putBack 23 = .ok (.iastore, 1) := by decide +kernel
theorem d_Psh_putBack_24 : decode b_Psh_putBack 24 = .ok (.aload_n 0, 1) := by decide +kernel
theorem d_Psh_putBack_25 : decode b_Psh_putBack 25 = .ok (.dup, 1) := by decide +kernel
theorem d_Psh_putBack_26 : decode b_Psh_putBack 26 = .ok (.getfield 17, 3) := by decide +kernel
theorem d_Psh_putBack_29 : decode b_Psh_putBack 29 = .ok (.iconst 1, 1) := by decide +kernel
theorem d_Psh_putBack_30 : decode b_Psh_putBack 30 = .ok (.iadd, 1) := by decide +kernel
theorem d_Psh_putBack_31 : decode b_Psh_putBack 31 = .ok (.putfield 17, 3) := by decide +kernel
theorem d_Psh_putBack_34 : decode b_Psh_putBack 34 = .ok (.iconst 1, 1) := by decide +kernel
theorem d_Psh_putBack_35 : decode b_Psh_putBack 35 = .ok (.ireturn, 1) := by decide +kernel
theorem d_Psh_answer_0 : decode b_Psh_answer 0 = .ok (.aload_n 0, 1) := by decide +kernel
theorem d_Psh_answer_1 : decode b_Psh_answer 1 = .ok (.getfield 17, 3) := by decide +kernel
theorem d_Psh_answer_4 : decode b_Psh_answer 4 = .ok (.ifCond .ne 14, 3) := by decide +kernel
theorem d_Psh_answer_7 : decode b_Psh_answer 7 = .ok (.aload_n 0, 1) := by decide +kernel
theorem d_Psh_answer_8 : decode b_Psh_answer 8 = .ok (.getfield 7, 3) := by decide +kernel
theorem d_Psh_answer_11 : decode b_Psh_answer 11 = .ok (.iload_n 1, 1) := by decide +kernel
theorem d_Psh_answer_12 : decode b_Psh_answer 12 = .ok (.aload_n 2, 1) := by decide +kernel
theorem d_Psh_answer_13 : decode b_Psh_answer 13 = .ok (.iload_n 3, 1) := by decide +kernel
theorem d_Psh_answer_14 : decode b_Psh_answer 14 = .ok (.invokevirtual 21, 3) := by decide +kernel
theorem d_Psh_answer_17 : decode b_Psh_answer 17 = .ok (.ireturn, 1) := by decide +kernel
theorem d_Psh_answer_18 : decode b_Psh_answer 18 = .ok (.iload_n 1, 1) := by decide +kernel
theorem d_Psh_answer_19 : decode b_Psh_answer 19 = .ok (.aload_n 0, 1) := by decide +kernel
theorem d_Psh_answer_20 : decode b_Psh_answer 20 = .ok (.getfield 17, 3) := by decide +kernel
theorem d_Psh_answer_23 : decode b_Psh_answer 23 = .ok (.invokestatic 25, 3) := by decide +kernel
theorem d_Psh_answer_26 : decode b_Psh_answer 26 = .ok (.istore 4, 2) := by decide +kernel
theorem d_Psh_answer_28 : decode b_Psh_answer 28 = .ok (.iconst 0, 1) := by decide +kernel
theorem d_Psh_answer_29 : decode b_Psh_answer 29 = .ok (.istore 5, 2) := by decide +kernel
theorem d_Psh_answer_31 : decode b_Psh_answer 31 = .ok (.iload 5, 2) := by decide +kernel
theorem d_Psh_answer_33 : decode b_Psh_answer 33 = .ok (.iload 4, 2) := by decide +kernel
theorem d_Psh_answer_35 : decode b_Psh_answer 35 = .ok (.if_icmp .ge 34, 3) := by decide +kernel
theorem d_Psh_answer_38 : decode b_Psh_answer 38 = .ok (.aload_n 0, 1) := by decide +kernel
theorem d_Psh_answer_39 : decode b_Psh_answer 39 = .ok (.dup, 1) := by decide +kernel
theorem d_Psh_answer_40 : decode b_Psh_answer 40 = .ok (.getfield 17, 3) := by decide +kernel
theorem d_Psh_answer_43 : decode b_Psh_answer 43 = .ok (.iconst 1, 1) := by decide +kernel
theorem d_Psh_answer_44 : decode b_Psh_answer 44 = .ok (.isub, 1) := by decide +kernel
theorem d_Psh_answer_45 : decode b_Psh_answer 45 = .ok (.putfield 17, 3) := by decide +kernel
theorem d_Psh_answer_48 : decode b_Psh_answer 48 = .ok (.aload_n 2, 1) := by decide +kernel
theorem d_Psh_answer_49 : decode b_Psh_answer 49 = .ok (.iload_n 3, 1) := by decide +kernel
theorem d_Psh_answer_50 : decode b_Psh_answer 50 = .ok (.iload 5, 2) := by decide +kernel
theorem d_Psh_answer_52 : decode b_Psh_answer 52 = .ok (.iadd, 1) := by decide +kernel
theorem d_Psh_answer_53 : decode b_Psh_answer 53 = .ok (.aload_n 0, 1) := by decide +kernel
theorem d_Psh_answer_54 : decode b_Psh_answer 54 = .ok (.getfield 13, 3) := by decide +kernel
theorem d_Psh_answer_57 : decode b_Psh_answer 57 = .ok (.aload_n 0, 1) := by decide +kernel
theorem d_Psh_answer_58 : decode b_Psh_answer 58 = .ok (.getfield 17, 3) := by decide +kernel
theorem d_Psh_answer_61 : decode b_Psh_answer 61 = .ok (.iaload, 1) := by decide +kernel
theorem d_Psh_answer_62 : decode b_Psh_answer 62 = .ok (.iastore, 1) := by decide +kernel
theorem d_Psh_answer_63 : decode b_Psh_answer 63 = .ok (.iinc 5 1, 3) := by decide +kernel
theorem d_Psh_answer_66 : decode b_Psh_answer 66 = .ok (.goto (-35), 3) := by decide +kernel
theorem d_Psh_answer_69 : decode b_Psh_answer 69 = .ok (.iload 4, 2) := by decide +kernel
theorem d_Psh_answer_71 : decode b_Psh_answer 71 = .ok (.ireturn, 1) := by decide +kernel
theorem d_Psh_ready_0 : decode b_Psh_ready 0 = .ok (.aload_n 0, 1) := by decide +kernel
theorem d_Psh_ready_1 : decode b_Psh_ready 1 = .ok (.getfield 17, 3) := by decide +kernel
theorem d_Psh_ready_4 : decode b_Psh_ready 4 = .ok (.aload_n 0, 1) := by decide +kernel
theorem d_Psh_ready_5 : decode b_Psh_ready 5 = .ok (.getfield 7, 3) := by decide +kernel
theorem d_Psh_ready_8 : decode b_Psh_ready 8 = .ok (.invokevirtual 31, 3) := by decide +kernel
theorem d_Psh_ready_11 : decode b_Psh_ready 11 = .ok (.iadd, 1) := by decide +kernel
theorem d_Psh_ready_12 : decode b_Psh_ready 12 = .ok (.ireturn, 1) := by decide +kernel
theorem d_Psh_state_0 : decode b_Psh_state 0 = .ok (.aload_n 0, 1) := by decide +kernel
theorem d_Psh_state_1 : decode b_Psh_state 1 = .ok (.getfield 17, 3) := by decide +kernel
theorem d_Psh_state_4 : decode b_Psh_state 4 = .ok (.ireturn, 1) := by decide +kernel
theorem fl_Buf_9 : fl_Ok "StreamTower$Buffer" 9 "StreamTower$Buffer" "below" "LStreamTower$Stream;" "StreamTower$Buffer" [3] 0 true (.object "StreamTower$Stream") := ⟨wd_317, by decide +kernel, Or.inl rfl, fun t ht => by obtain rfl := List.mem_singleton.mp ht; exact ⟨_, _, _, rfl, by decide, rfl⟩⟩
theorem fl_Buf_15 : fl_Ok "StreamTower$Buffer" 15 "StreamTower$Buffer" "room" "I" "StreamTower$Buffer" [3] 1 true (.int) := ⟨wd_318, by decide +kernel, Or.inl rfl, fun t ht => by obtain rfl := List.mem_singleton.mp ht; exact ⟨_, _, _, rfl, by decide, rfl⟩⟩
theorem fl_Buf_19 : fl_Ok "StreamTower$Buffer" 19 "StreamTower$Buffer" "kept" "[I" "StreamTower$Buffer" [3] 2 true (.array .int) := ⟨wd_319, by decide +kernel, Or.inl rfl, fun t ht => by obtain rfl := List.mem_singleton.mp ht; exact ⟨_, _, _, rfl, by decide, rfl⟩⟩
theorem md_Buf_init : md_Ok y_Buf_init (.code y_Buf_init b_Buf_init 3 none) 3 := ⟨wd_315, wd_11, ⟨by decide, by decide⟩, Or.inl ⟨_, _, rfl⟩⟩
theorem ml_Buf_init : (parseMethodDescriptor y_Buf_init.desc).map (fun d => d.parameters.length) = some 2 := by decide +kernel
theorem fl_Buf_56 : fl_Ok "StreamTower$Buffer" 56 "StreamTower$Buffer" "first" "I" "StreamTower$Buffer" [3] 3 false (.int) := ⟨wd_320, by decide +kernel, Or.inl rfl, fun t ht => by obtain rfl := List.mem_singleton.mp ht; exact ⟨_, _, _, rfl, by decide, rfl⟩⟩
theorem fl_Buf_23 : fl_Ok "StreamTower$Buffer" 23 "StreamTower$Buffer" "next" "I" "StreamTower$Buffer" [3] 4 false (.int) := ⟨wd_321, by decide +kernel, Or.inl rfl, fun t ht => by obtain rfl := List.mem_singleton.mp ht; exact ⟨_, _, _, rfl, by decide, rfl⟩⟩
theorem fl_Buf_26 : fl_Ok "StreamTower$Buffer" 26 "StreamTower$Buffer" "end" "I" "StreamTower$Buffer" [3] 5 false (.int) := ⟨wd_322, by decide +kernel, Or.inl rfl, fun t ht => by obtain rfl := List.mem_singleton.mp ht; exact ⟨_, _, _, rfl, by decide, rfl⟩⟩
theorem xl_answer : (parseMethodDescriptor xn_answer.desc).map (fun d => d.parameters.length) = some 3 := by decide +kernel
theorem md_Buf_fill : md_Ok y_Buf_fill (.code y_Buf_fill b_Buf_fill 2 (some .int)) 2 := ⟨wd_477, wd_11, ⟨by decide, by decide⟩, Or.inl ⟨_, _, rfl⟩⟩
theorem ml_Buf_fill : (parseMethodDescriptor y_Buf_fill.desc).map (fun d => d.parameters.length) = some 0 := by decide +kernel
theorem fl_Buf_59 : fl_Ok "StreamTower$Buffer" 59 "StreamTower$Buffer" "markLimit" "I" "StreamTower$Buffer" [3] 7 false (.int) := ⟨wd_324, by decide +kernel, Or.inl rfl, fun t ht => by obtain rfl := List.mem_singleton.mp ht; exact ⟨_, _, _, rfl, by decide, rfl⟩⟩
theorem fl_Buf_29 : fl_Ok "StreamTower$Buffer" 29 "StreamTower$Buffer" "marked" "Z" "StreamTower$Buffer" [3] 6 false (.boolean) := ⟨wd_323, by decide +kernel, Or.inl rfl, fun t ht => by obtain rfl := List.mem_singleton.mp ht; exact ⟨_, _, _, rfl, by decide, rfl⟩⟩
theorem md_Buf_forgetWhatNoMarkKeeps : md_Ok y_Buf_forgetWhatNoMarkKeeps (.code y_Buf_forgetWhatNoMarkKeeps b_Buf_forgetWhatNoMarkKeeps 1 none) 1 := ⟨wd_483, wd_11, ⟨by decide, by decide⟩, Or.inl ⟨_, _, rfl⟩⟩
theorem ml_Buf_forgetWhatNoMarkKeeps : (parseMethodDescriptor y_Buf_forgetWhatNoMarkKeeps.desc).map (fun d => d.parameters.length) = some 0 := by decide +kernel
theorem md_Buf_answer : md_Ok y_Buf_answer (.code y_Buf_answer b_Buf_answer 5 (some .int)) 5 := ⟨wd_448, wd_11, ⟨by decide, by decide⟩, Or.inl ⟨_, _, rfl⟩⟩
theorem ml_Buf_answer : (parseMethodDescriptor y_Buf_answer.desc).map (fun d => d.parameters.length) = some 3 := by decide +kernel
theorem xl_ready : (parseMethodDescriptor xn_ready.desc).map (fun d => d.parameters.length) = some 0 := by decide +kernel
theorem md_Buf_ready : md_Ok y_Buf_ready (.code y_Buf_ready b_Buf_ready 1 (some .int)) 1 := ⟨wd_133, wd_11, ⟨by decide, by decide⟩, Or.inl ⟨_, _, rfl⟩⟩
theorem ml_Buf_ready : (parseMethodDescriptor y_Buf_ready.desc).map (fun d => d.parameters.length) = some 0 := by decide +kernel
theorem md_Buf_state : md_Ok y_Buf_state (.code y_Buf_state b_Buf_state 1 (some .int)) 1 := ⟨wd_171, wd_11, ⟨by decide, by decide⟩, Or.inl ⟨_, _, rfl⟩⟩
theorem ml_Buf_state : (parseMethodDescriptor y_Buf_state.desc).map (fun d => d.parameters.length) = some 0 := by decide +kernel
theorem md_Buf_canBeMarked : md_Ok y_Buf_canBeMarked (.code y_Buf_canBeMarked b_Buf_canBeMarked 1 (some .boolean)) 1 := ⟨wd_594, wd_11, ⟨by decide, by decide⟩, Or.inl ⟨_, _, rfl⟩⟩
theorem ml_Buf_canBeMarked : (parseMethodDescriptor y_Buf_canBeMarked.desc).map (fun d => d.parameters.length) = some 0 := by decide +kernel
theorem md_Buf_hasMark : md_Ok y_Buf_hasMark (.code y_Buf_hasMark b_Buf_hasMark 1 (some .boolean)) 1 := ⟨wd_658, wd_11, ⟨by decide, by decide⟩, Or.inl ⟨_, _, rfl⟩⟩
theorem ml_Buf_hasMark : (parseMethodDescriptor y_Buf_hasMark.desc).map (fun d => d.parameters.length) = some 0 := by decide +kernel
theorem md_Buf_takeMark : md_Ok y_Buf_takeMark (.code y_Buf_takeMark b_Buf_takeMark 2 none) 2 := ⟨wd_624, wd_11, ⟨by decide, by decide⟩, Or.inl ⟨_, _, rfl⟩⟩
theorem ml_Buf_takeMark : (parseMethodDescriptor y_Buf_takeMark.desc).map (fun d => d.parameters.length) = some 1 := by decide +kernel
theorem md_Buf_goBack : md_Ok y_Buf_goBack (.code y_Buf_goBack b_Buf_goBack 1 none) 1 := ⟨wd_673, wd_11, ⟨by decide, by decide⟩, Or.inl ⟨_, _, rfl⟩⟩
theorem ml_Buf_goBack : (parseMethodDescriptor y_Buf_goBack.desc).map (fun d => d.parameters.length) = some 0 := by decide +kernel
theorem fl_Pas_7 : fl_Ok "StreamTower$Passing" 7 "StreamTower$Passing" "below" "LStreamTower$Stream;" "StreamTower$Passing" [5, 6, 7] 0 true (.object "StreamTower$Stream") := ⟨wd_369, by decide +kernel, Or.inl rfl, fun t ht => by
    simp only [List.mem_cons, List.not_mem_nil, or_false] at ht
    rcases ht with rfl | rfl | rfl <;> exact ⟨_, _, _, rfl, by decide, rfl⟩⟩
theorem md_Pas_init : md_Ok y_Pas_init (.code y_Pas_init b_Pas_init 2 none) 2 := ⟨wd_365, wd_13, ⟨by decide, by decide⟩, Or.inl ⟨_, _, rfl⟩⟩
theorem ml_Pas_init : (parseMethodDescriptor y_Pas_init.desc).map (fun d => d.parameters.length) = some 1 := by decide +kernel
theorem fl_Cod_9 : fl_Ok "StreamTower$Code" 9 "StreamTower$Code" "key" "I" "StreamTower$Code" [6] 1 true (.int) := ⟨wd_389, by decide +kernel, Or.inl rfl, fun t ht => by obtain rfl := List.mem_singleton.mp ht; exact ⟨_, _, _, rfl, by decide, rfl⟩⟩
theorem md_Cod_init : md_Ok y_Cod_init (.code y_Cod_init b_Cod_init 3 none) 3 := ⟨wd_387, wd_15, ⟨by decide, by decide⟩, Or.inl ⟨_, _, rfl⟩⟩
theorem ml_Cod_init : (parseMethodDescriptor y_Cod_init.desc).map (fun d => d.parameters.length) = some 2 := by decide +kernel
theorem fl_Cod_15 : fl_Ok "StreamTower$Code" 15 "StreamTower$Code" "below" "LStreamTower$Stream;" "StreamTower$Passing" [6] 0 true (.object "StreamTower$Stream") := ⟨wd_370, by decide +kernel, Or.inr wd_371, fun t ht => by obtain rfl := List.mem_singleton.mp ht; exact ⟨_, _, _, rfl, by decide, rfl⟩⟩
theorem fl_Cod_25 : fl_Ok "StreamTower$Code" 25 "StreamTower$Code" "coded" "I" "StreamTower$Code" [6] 2 false (.int) := ⟨wd_390, by decide +kernel, Or.inl rfl, fun t ht => by obtain rfl := List.mem_singleton.mp ht; exact ⟨_, _, _, rfl, by decide, rfl⟩⟩
theorem md_Cod_answer : md_Ok y_Cod_answer (.code y_Cod_answer b_Cod_answer 6 (some .int)) 6 := ⟨wd_451, wd_15, ⟨by decide, by decide⟩, Or.inl ⟨_, _, rfl⟩⟩
theorem ml_Cod_answer : (parseMethodDescriptor y_Cod_answer.desc).map (fun d => d.parameters.length) = some 3 := by decide +kernel
theorem md_Cod_state : md_Ok y_Cod_state (.code y_Cod_state b_Cod_state 1 (some .int)) 1 := ⟨wd_174, wd_15, ⟨by decide, by decide⟩, Or.inl ⟨_, _, rfl⟩⟩
theorem ml_Cod_state : (parseMethodDescriptor y_Cod_state.desc).map (fun d => d.parameters.length) = some 0 := by decide +kernel
theorem fl_Cod_28 : fl_Ok "StreamTower$Code" 28 "StreamTower$Code" "codedAtMark" "I" "StreamTower$Code" [6] 3 false (.int) := ⟨wd_391, by decide +kernel, Or.inl rfl, fun t ht => by obtain rfl := List.mem_singleton.mp ht; exact ⟨_, _, _, rfl, by decide, rfl⟩⟩
theorem md_Cod_remember : md_Ok y_Cod_remember (.code y_Cod_remember b_Cod_remember 1 none) 1 := ⟨wd_634, wd_15, ⟨by decide, by decide⟩, Or.inl ⟨_, _, rfl⟩⟩
theorem ml_Cod_remember : (parseMethodDescriptor y_Cod_remember.desc).map (fun d => d.parameters.length) = some 0 := by decide +kernel
theorem md_Cod_recall : md_Ok y_Cod_recall (.code y_Cod_recall b_Cod_recall 1 none) 1 := ⟨wd_683, wd_15, ⟨by decide, by decide⟩, Or.inl ⟨_, _, rfl⟩⟩
theorem ml_Cod_recall : (parseMethodDescriptor y_Cod_recall.desc).map (fun d => d.parameters.length) = some 0 := by decide +kernel
theorem fl_Lim_9 : fl_Ok "StreamTower$Limit" 9 "StreamTower$Limit" "left" "I" "StreamTower$Limit" [5] 1 false (.int) := ⟨wd_367, by decide +kernel, Or.inl rfl, fun t ht => by obtain rfl := List.mem_singleton.mp ht; exact ⟨_, _, _, rfl, by decide, rfl⟩⟩
theorem fl_Lim_15 : fl_Ok "StreamTower$Limit" 15 "StreamTower$Limit" "leftAtMark" "I" "StreamTower$Limit" [5] 2 false (.int) := ⟨wd_368, by decide +kernel, Or.inl rfl, fun t ht => by obtain rfl := List.mem_singleton.mp ht; exact ⟨_, _, _, rfl, by decide, rfl⟩⟩
theorem md_Lim_init : md_Ok y_Lim_init (.code y_Lim_init b_Lim_init 3 none) 3 := ⟨wd_362, wd_14, ⟨by decide, by decide⟩, Or.inl ⟨_, _, rfl⟩⟩
theorem ml_Lim_init : (parseMethodDescriptor y_Lim_init.desc).map (fun d => d.parameters.length) = some 2 := by decide +kernel
theorem fl_Lim_18 : fl_Ok "StreamTower$Limit" 18 "StreamTower$Limit" "below" "LStreamTower$Stream;" "StreamTower$Passing" [5] 0 true (.object "StreamTower$Stream") := ⟨wd_374, by decide +kernel, Or.inr wd_375, fun t ht => by obtain rfl := List.mem_singleton.mp ht; exact ⟨_, _, _, rfl, by decide, rfl⟩⟩
theorem md_Lim_answer : md_Ok y_Lim_answer (.code y_Lim_answer b_Lim_answer 5 (some .int)) 5 := ⟨wd_454, wd_14, ⟨by decide, by decide⟩, Or.inl ⟨_, _, rfl⟩⟩
theorem ml_Lim_answer : (parseMethodDescriptor y_Lim_answer.desc).map (fun d => d.parameters.length) = some 3 := by decide +kernel
theorem md_Lim_ready : md_Ok y_Lim_ready (.code y_Lim_ready b_Lim_ready 1 (some .int)) 1 := ⟨wd_139, wd_14, ⟨by decide, by decide⟩, Or.inl ⟨_, _, rfl⟩⟩
theorem ml_Lim_ready : (parseMethodDescriptor y_Lim_ready.desc).map (fun d => d.parameters.length) = some 0 := by decide +kernel
theorem md_Lim_state : md_Ok y_Lim_state (.code y_Lim_state b_Lim_state 1 (some .int)) 1 := ⟨wd_177, wd_14, ⟨by decide, by decide⟩, Or.inl ⟨_, _, rfl⟩⟩
theorem ml_Lim_state : (parseMethodDescriptor y_Lim_state.desc).map (fun d => d.parameters.length) = some 0 := by decide +kernel
theorem md_Lim_remember : md_Ok y_Lim_remember (.code y_Lim_remember b_Lim_remember 1 none) 1 := ⟨wd_637, wd_14, ⟨by decide, by decide⟩, Or.inl ⟨_, _, rfl⟩⟩
theorem ml_Lim_remember : (parseMethodDescriptor y_Lim_remember.desc).map (fun d => d.parameters.length) = some 0 := by decide +kernel
theorem md_Lim_recall : md_Ok y_Lim_recall (.code y_Lim_recall b_Lim_recall 1 none) 1 := ⟨wd_686, wd_14, ⟨by decide, by decide⟩, Or.inl ⟨_, _, rfl⟩⟩
theorem ml_Lim_recall : (parseMethodDescriptor y_Lim_recall.desc).map (fun d => d.parameters.length) = some 0 := by decide +kernel
theorem md_Lin_init : md_Ok y_Lin_init (.code y_Lin_init b_Lin_init 2 none) 2 := ⟨wd_404, wd_16, ⟨by decide, by decide⟩, Or.inl ⟨_, _, rfl⟩⟩
theorem ml_Lin_init : (parseMethodDescriptor y_Lin_init.desc).map (fun d => d.parameters.length) = some 1 := by decide +kernel
theorem fl_Lin_25 : fl_Ok "StreamTower$Lines" 25 "StreamTower$Lines" "lastWasReturn" "Z" "StreamTower$Lines" [7] 3 false (.boolean) := ⟨wd_408, by decide +kernel, Or.inl rfl, fun t ht => by obtain rfl := List.mem_singleton.mp ht; exact ⟨_, _, _, rfl, by decide, rfl⟩⟩
theorem fl_Lin_29 : fl_Ok "StreamTower$Lines" 29 "StreamTower$Lines" "lineEnds" "I" "StreamTower$Lines" [7] 1 false (.int) := ⟨wd_406, by decide +kernel, Or.inl rfl, fun t ht => by obtain rfl := List.mem_singleton.mp ht; exact ⟨_, _, _, rfl, by decide, rfl⟩⟩
theorem md_Lin_countLineEnd : md_Ok y_Lin_countLineEnd (.code y_Lin_countLineEnd b_Lin_countLineEnd 2 none) 2 := ⟨wd_473, wd_16, ⟨by decide, by decide⟩, Or.inl ⟨_, _, rfl⟩⟩
theorem ml_Lin_countLineEnd : (parseMethodDescriptor y_Lin_countLineEnd.desc).map (fun d => d.parameters.length) = some 1 := by decide +kernel
theorem fl_Lin_9 : fl_Ok "StreamTower$Lines" 9 "StreamTower$Lines" "below" "LStreamTower$Stream;" "StreamTower$Passing" [7] 0 true (.object "StreamTower$Stream") := ⟨wd_372, by decide +kernel, Or.inr wd_373, fun t ht => by obtain rfl := List.mem_singleton.mp ht; exact ⟨_, _, _, rfl, by decide, rfl⟩⟩
theorem md_Lin_answer : md_Ok y_Lin_answer (.code y_Lin_answer b_Lin_answer 6 (some .int)) 6 := ⟨wd_457, wd_16, ⟨by decide, by decide⟩, Or.inl ⟨_, _, rfl⟩⟩
theorem ml_Lin_answer : (parseMethodDescriptor y_Lin_answer.desc).map (fun d => d.parameters.length) = some 3 := by decide +kernel
theorem md_Lin_state : md_Ok y_Lin_state (.code y_Lin_state b_Lin_state 1 (some .int)) 1 := ⟨wd_180, wd_16, ⟨by decide, by decide⟩, Or.inl ⟨_, _, rfl⟩⟩
theorem ml_Lin_state : (parseMethodDescriptor y_Lin_state.desc).map (fun d => d.parameters.length) = some 0 := by decide +kernel
theorem fl_Lin_33 : fl_Ok "StreamTower$Lines" 33 "StreamTower$Lines" "lineEndsAtMark" "I" "StreamTower$Lines" [7] 2 false (.int) := ⟨wd_407, by decide +kernel, Or.inl rfl, fun t ht => by obtain rfl := List.mem_singleton.mp ht; exact ⟨_, _, _, rfl, by decide, rfl⟩⟩
theorem fl_Lin_36 : fl_Ok "StreamTower$Lines" 36 "StreamTower$Lines" "lastWasReturnAtMark" "Z" "StreamTower$Lines" [7] 4 false (.boolean) := ⟨wd_409, by decide +kernel, Or.inl rfl, fun t ht => by obtain rfl := List.mem_singleton.mp ht; exact ⟨_, _, _, rfl, by decide, rfl⟩⟩
theorem md_Lin_remember : md_Ok y_Lin_remember (.code y_Lin_remember b_Lin_remember 1 none) 1 := ⟨wd_640, wd_16, ⟨by decide, by decide⟩, Or.inl ⟨_, _, rfl⟩⟩
theorem ml_Lin_remember : (parseMethodDescriptor y_Lin_remember.desc).map (fun d => d.parameters.length) = some 0 := by decide +kernel
theorem md_Lin_recall : md_Ok y_Lin_recall (.code y_Lin_recall b_Lin_recall 1 none) 1 := ⟨wd_689, wd_16, ⟨by decide, by decide⟩, Or.inl ⟨_, _, rfl⟩⟩
theorem ml_Lin_recall : (parseMethodDescriptor y_Lin_recall.desc).map (fun d => d.parameters.length) = some 0 := by decide +kernel
theorem md_Pas_ready : md_Ok y_Pas_ready (.code y_Pas_ready b_Pas_ready 1 (some .int)) 1 := ⟨wd_136, wd_13, ⟨by decide, by decide⟩, Or.inl ⟨_, _, rfl⟩⟩
theorem ml_Pas_ready : (parseMethodDescriptor y_Pas_ready.desc).map (fun d => d.parameters.length) = some 0 := by decide +kernel
theorem xl_canBeMarked : (parseMethodDescriptor xn_canBeMarked.desc).map (fun d => d.parameters.length) = some 0 := by decide +kernel
theorem md_Pas_canBeMarked : md_Ok y_Pas_canBeMarked (.code y_Pas_canBeMarked b_Pas_canBeMarked 1 (some .boolean)) 1 := ⟨wd_597, wd_13, ⟨by decide, by decide⟩, Or.inl ⟨_, _, rfl⟩⟩
theorem ml_Pas_canBeMarked : (parseMethodDescriptor y_Pas_canBeMarked.desc).map (fun d => d.parameters.length) = some 0 := by decide +kernel
theorem xl_hasMark : (parseMethodDescriptor xn_hasMark.desc).map (fun d => d.parameters.length) = some 0 := by decide +kernel
theorem md_Pas_hasMark : md_Ok y_Pas_hasMark (.code y_Pas_hasMark b_Pas_hasMark 1 (some .boolean)) 1 := ⟨wd_661, wd_13, ⟨by decide, by decide⟩, Or.inl ⟨_, _, rfl⟩⟩
theorem ml_Pas_hasMark : (parseMethodDescriptor y_Pas_hasMark.desc).map (fun d => d.parameters.length) = some 0 := by decide +kernel
theorem xl_takeMark : (parseMethodDescriptor xn_takeMark.desc).map (fun d => d.parameters.length) = some 1 := by decide +kernel
theorem xl_remember : (parseMethodDescriptor xn_remember.desc).map (fun d => d.parameters.length) = some 0 := by decide +kernel
theorem md_Pas_takeMark : md_Ok y_Pas_takeMark (.code y_Pas_takeMark b_Pas_takeMark 2 none) 2 := ⟨wd_627, wd_13, ⟨by decide, by decide⟩, Or.inl ⟨_, _, rfl⟩⟩
theorem ml_Pas_takeMark : (parseMethodDescriptor y_Pas_takeMark.desc).map (fun d => d.parameters.length) = some 1 := by decide +kernel
theorem xl_goBack : (parseMethodDescriptor xn_goBack.desc).map (fun d => d.parameters.length) = some 0 := by decide +kernel
theorem xl_recall : (parseMethodDescriptor xn_recall.desc).map (fun d => d.parameters.length) = some 0 := by decide +kernel
theorem md_Pas_goBack : md_Ok y_Pas_goBack (.code y_Pas_goBack b_Pas_goBack 1 none) 1 := ⟨wd_676, wd_13, ⟨by decide, by decide⟩, Or.inl ⟨_, _, rfl⟩⟩
theorem ml_Pas_goBack : (parseMethodDescriptor y_Pas_goBack.desc).map (fun d => d.parameters.length) = some 0 := by decide +kernel
theorem fl_Psh_7 : fl_Ok "StreamTower$Pushback" 7 "StreamTower$Pushback" "below" "LStreamTower$Stream;" "StreamTower$Pushback" [4] 0 true (.object "StreamTower$Stream") := ⟨wd_348, by decide +kernel, Or.inl rfl, fun t ht => by obtain rfl := List.mem_singleton.mp ht; exact ⟨_, _, _, rfl, by decide, rfl⟩⟩
theorem fl_Psh_13 : fl_Ok "StreamTower$Pushback" 13 "StreamTower$Pushback" "bytes" "[I" "StreamTower$Pushback" [4] 1 true (.array .int) := ⟨wd_349, by decide +kernel, Or.inl rfl, fun t ht => by obtain rfl := List.mem_singleton.mp ht; exact ⟨_, _, _, rfl, by decide, rfl⟩⟩
theorem md_Psh_init : md_Ok y_Psh_init (.code y_Psh_init b_Psh_init 3 none) 3 := ⟨wd_346, wd_12, ⟨by decide, by decide⟩, Or.inl ⟨_, _, rfl⟩⟩
theorem ml_Psh_init : (parseMethodDescriptor y_Psh_init.desc).map (fun d => d.parameters.length) = some 2 := by decide +kernel
theorem fl_Psh_17 : fl_Ok "StreamTower$Pushback" 17 "StreamTower$Pushback" "count" "I" "StreamTower$Pushback" [4] 2 false (.int) := ⟨wd_350, by decide +kernel, Or.inl rfl, fun t ht => by obtain rfl := List.mem_singleton.mp ht; exact ⟨_, _, _, rfl, by decide, rfl⟩⟩
theorem md_Psh_putBack : md_Ok y_Psh_putBack (.code y_Psh_putBack b_Psh_putBack 2 (some .boolean)) 2 := ⟨wd_705, wd_12, ⟨by decide, by decide⟩, Or.inl ⟨_, _, rfl⟩⟩
theorem ml_Psh_putBack : (parseMethodDescriptor y_Psh_putBack.desc).map (fun d => d.parameters.length) = some 1 := by decide +kernel
theorem md_Psh_answer : md_Ok y_Psh_answer (.code y_Psh_answer b_Psh_answer 6 (some .int)) 6 := ⟨wd_460, wd_12, ⟨by decide, by decide⟩, Or.inl ⟨_, _, rfl⟩⟩
theorem ml_Psh_answer : (parseMethodDescriptor y_Psh_answer.desc).map (fun d => d.parameters.length) = some 3 := by decide +kernel
theorem md_Psh_ready : md_Ok y_Psh_ready (.code y_Psh_ready b_Psh_ready 1 (some .int)) 1 := ⟨wd_142, wd_12, ⟨by decide, by decide⟩, Or.inl ⟨_, _, rfl⟩⟩
theorem ml_Psh_ready : (parseMethodDescriptor y_Psh_ready.desc).map (fun d => d.parameters.length) = some 0 := by decide +kernel
theorem md_Psh_state : md_Ok y_Psh_state (.code y_Psh_state b_Psh_state 1 (some .int)) 1 := ⟨wd_183, wd_12, ⟨by decide, by decide⟩, Or.inl ⟨_, _, rfl⟩⟩
theorem ml_Psh_state : (parseMethodDescriptor y_Psh_state.desc).map (fun d => d.parameters.length) = some 0 := by decide +kernel
def f_Buf_init (t0 : Nat) (x1 : Nat) (x2 : Int32) (h0 : Hs_t) : Rs_t := bd_V (f_Str_init t0 h0) (fun h1 => (pt_V [3] 0 h1 t0 (.ref x1)).bind fun h2 => (pt_V [3] 1 h2 t0 (.int x2)).bind fun h3 => (nw_I 48 (32 + x2) h3).bind fun h4 => (pt_V [3] 2 h4 t0 (.ref h3.1)).bind fun h5 => re_V h5)
set_option maxRecDepth 100000 in
set_option maxHeartbeats 4000000 in
theorem c_Buf_init {l : Launch} {s0 : State} {A0 : Array Value} {G : Gx_t} (hG : G_0 l s0 A0 G) (rm : Room) (hrm : rm_Ok 1 48 2 32 rm) (t0 : Nat) (x1 : Nat) (x2 : Int32) (h0 : Hs_t) (r : Outcome × Hs_t) (heq : f_Buf_init t0 x1 x2 h0 = some r) : M_X G s0 l y_Buf_init (.code y_Buf_init b_Buf_init 3 none) rm [.ref t0, .ref x1, .int x2] h0 r := by
  refine M_X.of (by decide) hG (fun p e s m below meth c H hc hR => ?_)
  have hx := hc.x
  have hb := hc.b
  obtain ⟨hm1, hm2, hm3, hm4⟩ := id hrm
  have hLo : Lo_k s0 [] := fun _ hq => absurd hq List.not_mem_nil
  have hl := lv_entry ([.ref t0, .ref x1, .int x2]) (n := 3) (Nat.le_of_ble_eq_true rfl)
  rw [lg_entry_eq]
  generalize (lg_sl ([.ref t0, .ref x1, .int x2]) ++ List.replicate (3 - (lg_sl ([.ref t0, .ref x1, .int x2])).length) Slot.unset).toArray = ls at hl ⊢
  have hl : lv_has ls 3 [(0, .ref t0), (1, .ref x1), (2, .int x2)] := hl
  generalize hle : ([] : List Loc) = locs at hLo ⊢
  unfold f_Buf_init at heq
  refine lv_aload_n hx hb d_Buf_init_0 rfl (lv_at hl 0 rfl) ?_
  refine x_bV (mc := 0) (ms := 0) (st := []) hc hLo heq ⟨by omega, by omega⟩ (fun r9 h9 => x_runIN hc (c_Str_init hc.g rm_Str_init rk_Str_init _ _ _ h9) md_Str_init hR wd_316 wd_35 rfl ⟨_, rfl⟩ hl.1 ml_Str_init rfl (Nat.le_of_ble_eq_true rfl) d_Buf_init_1 ⟨by show 1 + 1 ≤ _; omega, by show 8 + (1 + 11) + (12) ≤ _; omega⟩ ⟨by show 0 + 0 ≤ _; omega, by show 0 + 0 ≤ _; omega⟩) (fun h1 H locs hR hLo heq => ?_)
  refine lv_aload_n hx hb d_Buf_init_4 rfl (lv_at hl 0 rfl) ?_
  refine lv_aload_n hx hb d_Buf_init_5 rfl (lv_at hl 1 rfl) ?_
  refine x_pV hc hR hLo fl_Buf_9 (Or.inr ⟨rfl, rfl⟩) rfl rfl heq d_Buf_init_6 (fun h2 H locs hR hLo heq => ?_)
  refine lv_aload_n hx hb d_Buf_init_9 rfl (lv_at hl 0 rfl) ?_
  refine lv_iload_n hx hb d_Buf_init_10 rfl (lv_at hl 2 rfl) ?_
  refine x_pV hc hR hLo fl_Buf_15 (Or.inr ⟨rfl, rfl⟩) rfl rfl heq d_Buf_init_11 (fun h3 H locs hR hLo heq => ?_)
  refine lv_aload_n hx hb d_Buf_init_14 rfl (lv_at hl 0 rfl) ?_
  refine lv_bipush (v := 32) hx hb d_Buf_init_15 (by decide) ?_
  refine lv_iload_n hx hb d_Buf_init_17 rfl (lv_at hl 2 rfl) ?_
  refine lv_iadd hx hb d_Buf_init_18 ?_
  refine x_newI hc hR wd_55 (by decide) ⟨by omega, by omega⟩ heq d_Buf_init_19 (fun h4 H hR heq => ?_)
  refine x_pV hc hR hLo fl_Buf_19 (Or.inr ⟨rfl, rfl⟩) rfl rfl heq d_Buf_init_21 (fun h5 H locs hR hLo heq => ?_)
  exact x_vret hc hR hLo ⟨by omega, by omega⟩ heq d_Buf_init_24
def rm_Buf_init : Room := { frames := 2, cells := 1, slots := 48, locals := 32 }
theorem rk_Buf_init : rm_Ok 1 48 2 32 rm_Buf_init := ⟨Nat.le_refl _, Nat.le_refl _, Nat.le_refl _, Nat.le_refl _⟩
def f_Buf_fill_b86 (w_answer : Nat → Int32 → Nat → Int32 → Hs_t → Rs_t) (x1 : Int32) (h0 : Hs_t) : Rs_t := re_I x1 h0
def f_Buf_fill (w_answer : Nat → Int32 → Nat → Int32 → Hs_t → Rs_t) (t0 : Nat) (h0 : Hs_t) : Rs_t := (fd_A [3] 2 h0 t0).bind fun v1 => (fd_I [3] 3 h0 t0).bind fun v2 => (fd_A [3] 2 h0 t0).bind fun v3 => (fd_I [3] 4 h0 t0).bind fun v4 => (fd_I [3] 3 h0 t0).bind fun v5 => (cp_I h0 v1 v2 v3 0 (v4 - v5)).bind fun h1 => (fd_I [3] 4 h1 t0).bind fun v6 => (fd_I [3] 3 h1 t0).bind fun v7 => (pt_V [3] 4 h1 t0 (.int (v6 - v7))).bind fun h2 => (fd_I [3] 4 h2 t0).bind fun v8 => (pt_V [3] 5 h2 t0 (.int v8)).bind fun h3 => (pt_V [3] 3 h3 t0 (.int 0)).bind fun h4 => (fd_A [3] 0 h4 t0).bind fun v9 => (fd_I [3] 1 h4 t0).bind fun v10 => (fd_A [3] 2 h4 t0).bind fun v11 => (fd_I [3] 5 h4 t0).bind fun v12 => bd_I (w_answer v9 v10 v11 v12 h4) (fun v13 h5 => if v13 = (-1) then (f_Buf_fill_b86 w_answer v13 h5) else ((fd_I [3] 5 h5 t0).bind fun v14 => (pt_V [3] 5 h5 t0 (.int (v14 + v13))).bind fun h6 => f_Buf_fill_b86 w_answer v13 h6))
set_option maxRecDepth 100000 in
set_option maxHeartbeats 4000000 in
theorem k_Buf_fill_b86 {p : Program} {l : Launch} {e : Env} {s : State} {m : MethodId} {args : Array Value} {below : List Frame} {meth : Method} {c : Code} {s0 : State} {A0 : Array Value} {G : Gx_t} {r : Outcome × Hs_t} {rm : Room} (FW LW : Nat) (w_answer : Nat → Int32 → Nat → Int32 → Hs_t → Rs_t) (hc : Cx_t p s m meth c s0 A0 l G y_Buf_fill b_Buf_fill 2 (some .int) []) (hrm : rm_Ok 0 0 (FW + 1) (LW + 40) rm) (hw_answer : ∀ (a : Nat) (x1 : Int32) (x2 : Nat) (x3 : Int32) (h : Hs_t) (r0 : Outcome × Hs_t), w_answer a x1 x2 x3 h = some r0 → V_X G s0 l xn_answer { frames := FW, cells := 0, slots := 0, locals := LW } a [.int x1, .ref x2, .int x3] h r0) : ∀ (x1 : Int32) (h0 : Hs_t) (H : Heap) (locs : List Loc) (ls : Array Slot), Rp_h G s0.heap h0 H → Lo_k s0 locs → lv_has ls 2 [(1, .int x1)] → f_Buf_fill_b86 w_answer x1 h0 = some r → W p l e rm s m args below meth c H locs 0 0 (xq_MQ G s0 below r s rm.cells rm.slots) (F0 m 86 ls []) := by
  have hx := hc.x
  have hb := hc.b
  obtain ⟨hm1, hm2, hm3, hm4⟩ := id hrm
  intro x1 h0 H locs ls hR hLo hl heq
  unfold f_Buf_fill_b86 at heq
  refine lv_iload_n hx hb d_Buf_fill_86 rfl (lv_at hl 0 rfl) ?_
  exact x_iret hc hR hLo ⟨by omega, by omega⟩ heq d_Buf_fill_87
set_option maxRecDepth 100000 in
set_option maxHeartbeats 4000000 in
theorem c_Buf_fill {l : Launch} {s0 : State} {A0 : Array Value} {G : Gx_t} (hG : G_0 l s0 A0 G) (FW LW : Nat) (w_answer : Nat → Int32 → Nat → Int32 → Hs_t → Rs_t) (rm : Room) (hrm : rm_Ok 0 0 (FW + 1) (LW + 40) rm) (hw_answer : ∀ (a : Nat) (x1 : Int32) (x2 : Nat) (x3 : Int32) (h : Hs_t) (r0 : Outcome × Hs_t), w_answer a x1 x2 x3 h = some r0 → V_X G s0 l xn_answer { frames := FW, cells := 0, slots := 0, locals := LW } a [.int x1, .ref x2, .int x3] h r0) (t0 : Nat) (h0 : Hs_t) (r : Outcome × Hs_t) (heq : f_Buf_fill w_answer t0 h0 = some r) : M_X G s0 l y_Buf_fill (.code y_Buf_fill b_Buf_fill 2 (some .int)) rm [.ref t0] h0 r := by
  refine M_X.of (by decide) hG (fun p e s m below meth c H hc hR => ?_)
  have hx := hc.x
  have hb := hc.b
  obtain ⟨hm1, hm2, hm3, hm4⟩ := id hrm
  have hLo : Lo_k s0 [] := fun _ hq => absurd hq List.not_mem_nil
  have hl := lv_entry ([.ref t0]) (n := 2) (Nat.le_of_ble_eq_true rfl)
  rw [lg_entry_eq]
  generalize (lg_sl ([.ref t0]) ++ List.replicate (2 - (lg_sl ([.ref t0])).length) Slot.unset).toArray = ls at hl ⊢
  have hl : lv_has ls 2 [(0, .ref t0)] := hl
  generalize hle : ([] : List Loc) = locs at hLo ⊢
  unfold f_Buf_fill at heq
  refine lv_aload_n hx hb d_Buf_fill_0 rfl (lv_at hl 0 rfl) ?_
  refine x_gA hc hR fl_Buf_19 heq d_Buf_fill_1 (fun v1 heq => ?_)
  refine lv_aload_n hx hb d_Buf_fill_4 rfl (lv_at hl 0 rfl) ?_
  refine x_gI hc hR fl_Buf_56 heq d_Buf_fill_5 (fun v2 heq => ?_)
  refine lv_aload_n hx hb d_Buf_fill_8 rfl (lv_at hl 0 rfl) ?_
  refine x_gA hc hR fl_Buf_19 heq d_Buf_fill_9 (fun v3 heq => ?_)
  refine lv_iconst (v := 0) hx hb d_Buf_fill_12 (by decide) ?_
  refine lv_aload_n hx hb d_Buf_fill_13 rfl (lv_at hl 0 rfl) ?_
  refine x_gI hc hR fl_Buf_23 heq d_Buf_fill_14 (fun v4 heq => ?_)
  refine lv_aload_n hx hb d_Buf_fill_17 rfl (lv_at hl 0 rfl) ?_
  refine x_gI hc hR fl_Buf_56 heq d_Buf_fill_18 (fun v5 heq => ?_)
  refine lv_isub hx hb d_Buf_fill_21 ?_
  refine x_cpI hc hR hLo hl.1 wd_478 wd_468 wd_467 wd_18 (by omega) (by show 0 + (nativeFrameWords "java/lang/System" "arraycopy" 5 + 11) ≤ _; have := cp_w; omega) heq d_Buf_fill_22 (fun h1 H locs hR hLo heq => ?_)
  refine lv_aload_n hx hb d_Buf_fill_25 rfl (lv_at hl 0 rfl) ?_
  refine lv_dup hx hb d_Buf_fill_26 rfl ?_
  refine x_gI hc hR fl_Buf_23 heq d_Buf_fill_27 (fun v6 heq => ?_)
  refine lv_aload_n hx hb d_Buf_fill_30 rfl (lv_at hl 0 rfl) ?_
  refine x_gI hc hR fl_Buf_56 heq d_Buf_fill_31 (fun v7 heq => ?_)
  refine lv_isub hx hb d_Buf_fill_34 ?_
  refine x_pV hc hR hLo fl_Buf_23 (Or.inl rfl) rfl rfl heq d_Buf_fill_35 (fun h2 H locs hR hLo heq => ?_)
  refine lv_aload_n hx hb d_Buf_fill_38 rfl (lv_at hl 0 rfl) ?_
  refine lv_aload_n hx hb d_Buf_fill_39 rfl (lv_at hl 0 rfl) ?_
  refine x_gI hc hR fl_Buf_23 heq d_Buf_fill_40 (fun v8 heq => ?_)
  refine x_pV hc hR hLo fl_Buf_26 (Or.inl rfl) rfl rfl heq d_Buf_fill_43 (fun h3 H locs hR hLo heq => ?_)
  refine lv_aload_n hx hb d_Buf_fill_46 rfl (lv_at hl 0 rfl) ?_
  refine lv_iconst (v := 0) hx hb d_Buf_fill_47 (by decide) ?_
  refine x_pV hc hR hLo fl_Buf_56 (Or.inl rfl) rfl rfl heq d_Buf_fill_48 (fun h4 H locs hR hLo heq => ?_)
  refine lv_aload_n hx hb d_Buf_fill_51 rfl (lv_at hl 0 rfl) ?_
  refine x_gA hc hR fl_Buf_9 heq d_Buf_fill_52 (fun v9 heq => ?_)
  refine lv_aload_n hx hb d_Buf_fill_55 rfl (lv_at hl 0 rfl) ?_
  refine x_gI hc hR fl_Buf_15 heq d_Buf_fill_56 (fun v10 heq => ?_)
  refine lv_aload_n hx hb d_Buf_fill_59 rfl (lv_at hl 0 rfl) ?_
  refine x_gA hc hR fl_Buf_19 heq d_Buf_fill_60 (fun v11 heq => ?_)
  refine lv_aload_n hx hb d_Buf_fill_63 rfl (lv_at hl 0 rfl) ?_
  refine x_gI hc hR fl_Buf_26 heq d_Buf_fill_64 (fun v12 heq => ?_)
  refine x_bI (mc := 0) (ms := 0) (st := []) hc hLo heq ⟨by omega, by omega⟩ (fun r9 h9 => x_runW hc (hw_answer _ _ _ _ _ _ h9) hR wd_449 wd_445 (Or.inl wd_444) (by decide) hl.1 xl_answer rfl (Nat.le_of_ble_eq_true rfl) d_Buf_fill_67 ⟨by show FW + 0 + 1 ≤ _; omega, by show 8 + (10 + 11) + (LW + 0) ≤ _; omega⟩ ⟨by show 0 + 0 ≤ _; omega, by show 0 + 0 ≤ _; omega⟩) (fun v13 h5 H locs hR hLo heq => ?_)
  refine lv_istore_n (lv' := [(1, .int v13), (0, .ref t0)]) hx hb d_Buf_fill_70 rfl hl (by decide) rfl (fun ls hl => ?_)
  refine lv_iload_n hx hb d_Buf_fill_71 rfl (lv_at hl 0 rfl) ?_
  refine lv_iconst (v := (-1)) hx hb d_Buf_fill_72 (by decide) ?_
  refine lv_icmp_eq (tgt := 86) hx hb d_Buf_fill_73 rfl (fun hq => ?_) (fun hq => ?_)
  · rw [if_pos hq] at heq
    refine W.widen (k := 0) (n := 0) (by omega) (by omega) ?_
    exact k_Buf_fill_b86 FW LW w_answer hc hrm hw_answer v13 h5 H locs ls hR hLo (lv_sub hl [0] rfl) heq
  · rw [if_neg hq] at heq
    refine lv_aload_n hx hb d_Buf_fill_76 rfl (lv_at hl 1 rfl) ?_
    refine lv_dup hx hb d_Buf_fill_77 rfl ?_
    refine x_gI hc hR fl_Buf_26 heq d_Buf_fill_78 (fun v14 heq => ?_)
    refine lv_iload_n hx hb d_Buf_fill_81 rfl (lv_at hl 0 rfl) ?_
    refine lv_iadd hx hb d_Buf_fill_82 ?_
    refine x_pV hc hR hLo fl_Buf_26 (Or.inl rfl) rfl rfl heq d_Buf_fill_83 (fun h6 H locs hR hLo heq => ?_)
    refine W.widen (k := 0) (n := 0) (by omega) (by omega) ?_
    exact k_Buf_fill_b86 FW LW w_answer hc hrm hw_answer v13 h6 H locs ls hR hLo (lv_sub hl [0] rfl) heq
def f_Buf_forgetWhatNoMarkKeeps_b36 (h0 : Hs_t) : Rs_t := re_V h0
def f_Buf_forgetWhatNoMarkKeeps_b21 (t0 : Nat) (h0 : Hs_t) : Rs_t := (fd_I [3] 6 h0 t0).bind fun v4 => if v4 = 0 then ((fd_I [3] 4 h0 t0).bind fun v5 => (pt_V [3] 3 h0 t0 (.int v5)).bind fun h2 => f_Buf_forgetWhatNoMarkKeeps_b36 h2) else (f_Buf_forgetWhatNoMarkKeeps_b36 h0)
def f_Buf_forgetWhatNoMarkKeeps (t0 : Nat) (h0 : Hs_t) : Rs_t := (fd_I [3] 4 h0 t0).bind fun v1 => (fd_I [3] 3 h0 t0).bind fun v2 => (fd_I [3] 7 h0 t0).bind fun v3 => if (v1 - v2) ≤ v3 then (f_Buf_forgetWhatNoMarkKeeps_b21 t0 h0) else ((pt_Z [3] 6 h0 t0 0).bind fun h1 => f_Buf_forgetWhatNoMarkKeeps_b21 t0 h1)
set_option maxRecDepth 100000 in
set_option maxHeartbeats 4000000 in
theorem k_Buf_forgetWhatNoMarkKeeps_b36 {p : Program} {l : Launch} {e : Env} {s : State} {m : MethodId} {args : Array Value} {below : List Frame} {meth : Method} {c : Code} {s0 : State} {A0 : Array Value} {G : Gx_t} {r : Outcome × Hs_t} {rm : Room} (hc : Cx_t p s m meth c s0 A0 l G y_Buf_forgetWhatNoMarkKeeps b_Buf_forgetWhatNoMarkKeeps 1 none []) (hrm : rm_Ok 0 0 0 0 rm) : ∀  (h0 : Hs_t) (H : Heap) (locs : List Loc) (ls : Array Slot), Rp_h G s0.heap h0 H → Lo_k s0 locs → lv_has ls 1 [] → f_Buf_forgetWhatNoMarkKeeps_b36  h0 = some r → W p l e rm s m args below meth c H locs 0 0 (xq_MQ G s0 below r s rm.cells rm.slots) (F0 m 36 ls []) := by
  have hx := hc.x
  have hb := hc.b
  obtain ⟨hm1, hm2, hm3, hm4⟩ := id hrm
  intro  h0 H locs ls hR hLo hl heq
  unfold f_Buf_forgetWhatNoMarkKeeps_b36 at heq
  exact x_vret hc hR hLo ⟨by omega, by omega⟩ heq d_Buf_forgetWhatNoMarkKeeps_36
set_option maxRecDepth 100000 in
set_option maxHeartbeats 4000000 in
theorem k_Buf_forgetWhatNoMarkKeeps_b21 {p : Program} {l : Launch} {e : Env} {s : State} {m : MethodId} {args : Array Value} {below : List Frame} {meth : Method} {c : Code} {s0 : State} {A0 : Array Value} {G : Gx_t} {r : Outcome × Hs_t} {rm : Room} (hc : Cx_t p s m meth c s0 A0 l G y_Buf_forgetWhatNoMarkKeeps b_Buf_forgetWhatNoMarkKeeps 1 none []) (hrm : rm_Ok 0 0 0 0 rm) : ∀ (t0 : Nat) (h0 : Hs_t) (H : Heap) (locs : List Loc) (ls : Array Slot), Rp_h G s0.heap h0 H → Lo_k s0 locs → lv_has ls 1 [(0, .ref t0)] → f_Buf_forgetWhatNoMarkKeeps_b21 t0 h0 = some r → W p l e rm s m args below meth c H locs 0 0 (xq_MQ G s0 below r s rm.cells rm.slots) (F0 m 21 ls []) := by
  have hx := hc.x
  have hb := hc.b
  obtain ⟨hm1, hm2, hm3, hm4⟩ := id hrm
  intro t0 h0 H locs ls hR hLo hl heq
  unfold f_Buf_forgetWhatNoMarkKeeps_b21 at heq
  refine lv_aload_n hx hb d_Buf_forgetWhatNoMarkKeeps_21 rfl (lv_at hl 0 rfl) ?_
  refine x_gI hc hR fl_Buf_29 heq d_Buf_forgetWhatNoMarkKeeps_22 (fun v4 heq => ?_)
  refine lv_if_ne (tgt := 36) hx hb d_Buf_forgetWhatNoMarkKeeps_25 rfl (fun hq => ?_) (fun hq => ?_)
  · rw [if_neg hq] at heq
    refine W.widen (k := 0) (n := 0) (by omega) (by omega) ?_
    exact k_Buf_forgetWhatNoMarkKeeps_b36 hc hrm h0 H locs ls hR hLo (lv_sub hl [] rfl) heq
  · rw [if_pos hq] at heq
    refine lv_aload_n hx hb d_Buf_forgetWhatNoMarkKeeps_28 rfl (lv_at hl 0 rfl) ?_
    refine lv_aload_n hx hb d_Buf_forgetWhatNoMarkKeeps_29 rfl (lv_at hl 0 rfl) ?_
    refine x_gI hc hR fl_Buf_23 heq d_Buf_forgetWhatNoMarkKeeps_30 (fun v5 heq => ?_)
    refine x_pV hc hR hLo fl_Buf_56 (Or.inl rfl) rfl rfl heq d_Buf_forgetWhatNoMarkKeeps_33 (fun h2 H locs hR hLo heq => ?_)
    refine W.widen (k := 0) (n := 0) (by omega) (by omega) ?_
    exact k_Buf_forgetWhatNoMarkKeeps_b36 hc hrm h2 H locs ls hR hLo (lv_sub hl [] rfl) heq
set_option maxRecDepth 100000 in
set_option maxHeartbeats 4000000 in
theorem c_Buf_forgetWhatNoMarkKeeps {l : Launch} {s0 : State} {A0 : Array Value} {G : Gx_t} (hG : G_0 l s0 A0 G) (rm : Room) (hrm : rm_Ok 0 0 0 0 rm) (t0 : Nat) (h0 : Hs_t) (r : Outcome × Hs_t) (heq : f_Buf_forgetWhatNoMarkKeeps t0 h0 = some r) : M_X G s0 l y_Buf_forgetWhatNoMarkKeeps (.code y_Buf_forgetWhatNoMarkKeeps b_Buf_forgetWhatNoMarkKeeps 1 none) rm [.ref t0] h0 r := by
  refine M_X.of (by decide) hG (fun p e s m below meth c H hc hR => ?_)
  have hx := hc.x
  have hb := hc.b
  obtain ⟨hm1, hm2, hm3, hm4⟩ := id hrm
  have hLo : Lo_k s0 [] := fun _ hq => absurd hq List.not_mem_nil
  have hl := lv_entry ([.ref t0]) (n := 1) (Nat.le_of_ble_eq_true rfl)
  rw [lg_entry_eq]
  generalize (lg_sl ([.ref t0]) ++ List.replicate (1 - (lg_sl ([.ref t0])).length) Slot.unset).toArray = ls at hl ⊢
  have hl : lv_has ls 1 [(0, .ref t0)] := hl
  generalize hle : ([] : List Loc) = locs at hLo ⊢
  unfold f_Buf_forgetWhatNoMarkKeeps at heq
  refine lv_aload_n hx hb d_Buf_forgetWhatNoMarkKeeps_0 rfl (lv_at hl 0 rfl) ?_
  refine x_gI hc hR fl_Buf_23 heq d_Buf_forgetWhatNoMarkKeeps_1 (fun v1 heq => ?_)
  refine lv_aload_n hx hb d_Buf_forgetWhatNoMarkKeeps_4 rfl (lv_at hl 0 rfl) ?_
  refine x_gI hc hR fl_Buf_56 heq d_Buf_forgetWhatNoMarkKeeps_5 (fun v2 heq => ?_)
  refine lv_isub hx hb d_Buf_forgetWhatNoMarkKeeps_8 ?_
  refine lv_aload_n hx hb d_Buf_forgetWhatNoMarkKeeps_9 rfl (lv_at hl 0 rfl) ?_
  refine x_gI hc hR fl_Buf_59 heq d_Buf_forgetWhatNoMarkKeeps_10 (fun v3 heq => ?_)
  refine lv_icmp_le (tgt := 21) hx hb d_Buf_forgetWhatNoMarkKeeps_13 rfl (fun hq => ?_) (fun hq => ?_)
  · rw [if_pos hq] at heq
    refine W.widen (k := 0) (n := 0) (by omega) (by omega) ?_
    exact k_Buf_forgetWhatNoMarkKeeps_b21 hc hrm t0 h0 H locs ls hR hLo (lv_sub hl [0] rfl) heq
  · rw [if_neg hq] at heq
    refine lv_aload_n hx hb d_Buf_forgetWhatNoMarkKeeps_16 rfl (lv_at hl 0 rfl) ?_
    refine lv_iconst (v := 0) hx hb d_Buf_forgetWhatNoMarkKeeps_17 (by decide) ?_
    refine x_pZ hc hR hLo fl_Buf_29 (Or.inl rfl) heq d_Buf_forgetWhatNoMarkKeeps_18 (fun h1 H locs hR hLo heq => ?_)
    refine W.widen (k := 0) (n := 0) (by omega) (by omega) ?_
    exact k_Buf_forgetWhatNoMarkKeeps_b21 hc hrm t0 h1 H locs ls hR hLo (lv_sub hl [0] rfl) heq
def rm_Buf_forgetWhatNoMarkKeeps : Room := { frames := 0, cells := 0, slots := 0, locals := 0 }
theorem rk_Buf_forgetWhatNoMarkKeeps : rm_Ok 0 0 0 0 rm_Buf_forgetWhatNoMarkKeeps := ⟨Nat.le_refl _, Nat.le_refl _, Nat.le_refl _, Nat.le_refl _⟩
def f_Buf_answer_b57 (w_answer : Nat → Int32 → Nat → Int32 → Hs_t → Rs_t) (t0 : Nat) (x1 : Int32) (x2 : Nat) (x3 : Int32) (h0 : Hs_t) : Rs_t := (fd_I [3] 5 h0 t0).bind fun v8 => (fd_I [3] 4 h0 t0).bind fun v9 => (fd_A [3] 2 h0 t0).bind fun v10 => (fd_I [3] 4 h0 t0).bind fun v11 => (cp_I h0 v10 v11 x2 x3 (if (v8 - v9) < x1 then (v8 - v9) else x1)).bind fun h3 => (fd_I [3] 4 h3 t0).bind fun v12 => (pt_V [3] 4 h3 t0 (.int (v12 + (if (v8 - v9) < x1 then (v8 - v9) else x1)))).bind fun h4 => (ck_T [3] h4 t0).bind fun _ => bd_V (f_Buf_forgetWhatNoMarkKeeps t0 h4) (fun h5 => re_I (if (v8 - v9) < x1 then (v8 - v9) else x1) h5)
def f_Buf_answer_b54 (w_answer : Nat → Int32 → Nat → Int32 → Hs_t → Rs_t) (x4 : Int32) (h0 : Hs_t) : Rs_t := re_I x4 h0
def f_Buf_answer_b37 (w_answer : Nat → Int32 → Nat → Int32 → Hs_t → Rs_t) (t0 : Nat) (x1 : Int32) (x2 : Nat) (x3 : Int32) (h0 : Hs_t) : Rs_t := (ck_T [3] h0 t0).bind fun _ => bd_I (f_Buf_fill w_answer t0 h0) (fun v7 h2 => if v7 = (-1) then (f_Buf_answer_b54 w_answer v7 h2) else (if v7 = 0 then (f_Buf_answer_b54 w_answer v7 h2) else (f_Buf_answer_b57 w_answer t0 x1 x2 x3 h2)))
def f_Buf_answer (w_answer : Nat → Int32 → Nat → Int32 → Hs_t → Rs_t) (t0 : Nat) (x1 : Int32) (x2 : Nat) (x3 : Int32) (h0 : Hs_t) : Rs_t := (fd_I [3] 4 h0 t0).bind fun v1 => (fd_I [3] 5 h0 t0).bind fun v2 => if v1 = v2 then ((fd_I [3] 1 h0 t0).bind fun v3 => if x1 < v3 then (f_Buf_answer_b37 w_answer t0 x1 x2 x3 h0) else ((fd_I [3] 6 h0 t0).bind fun v4 => if v4 = 0 then ((fd_A [3] 0 h0 t0).bind fun v5 => bd_I (w_answer v5 x1 x2 x3 h0) (fun v6 h1 => re_I v6 h1)) else (f_Buf_answer_b37 w_answer t0 x1 x2 x3 h0))) else (f_Buf_answer_b57 w_answer t0 x1 x2 x3 h0)
set_option maxRecDepth 100000 in
set_option maxHeartbeats 4000000 in
theorem k_Buf_answer_b57 {p : Program} {l : Launch} {e : Env} {s : State} {m : MethodId} {args : Array Value} {below : List Frame} {meth : Method} {c : Code} {s0 : State} {A0 : Array Value} {G : Gx_t} {r : Outcome × Hs_t} {rm : Room} (FW LW : Nat) (w_answer : Nat → Int32 → Nat → Int32 → Hs_t → Rs_t) (hc : Cx_t p s m meth c s0 A0 l G y_Buf_answer b_Buf_answer 5 (some .int) []) (hrm : rm_Ok 0 0 (FW + 2) (LW + 61) rm) (hw_answer : ∀ (a : Nat) (x1 : Int32) (x2 : Nat) (x3 : Int32) (h : Hs_t) (r0 : Outcome × Hs_t), w_answer a x1 x2 x3 h = some r0 → V_X G s0 l xn_answer { frames := FW, cells := 0, slots := 0, locals := LW } a [.int x1, .ref x2, .int x3] h r0) : ∀ (t0 : Nat) (x1 : Int32) (x2 : Nat) (x3 : Int32) (h0 : Hs_t) (H : Heap) (locs : List Loc) (ls : Array Slot), Rp_h G s0.heap h0 H → Lo_k s0 locs → lv_has ls 5 [(0, .ref t0), (1, .int x1), (2, .ref x2), (3, .int x3)] → f_Buf_answer_b57 w_answer t0 x1 x2 x3 h0 = some r → W p l e rm s m args below meth c H locs 0 0 (xq_MQ G s0 below r s rm.cells rm.slots) (F0 m 57 ls []) := by
  have hx := hc.x
  have hb := hc.b
  obtain ⟨hm1, hm2, hm3, hm4⟩ := id hrm
  intro t0 x1 x2 x3 h0 H locs ls hR hLo hl heq
  unfold f_Buf_answer_b57 at heq
  refine lv_iload_n hx hb d_Buf_answer_57 rfl (lv_at hl 1 rfl) ?_
  refine lv_aload_n hx hb d_Buf_answer_58 rfl (lv_at hl 0 rfl) ?_
  refine x_gI hc hR fl_Buf_26 heq d_Buf_answer_59 (fun v8 heq => ?_)
  refine lv_aload_n hx hb d_Buf_answer_62 rfl (lv_at hl 0 rfl) ?_
  refine x_gI hc hR fl_Buf_23 heq d_Buf_answer_63 (fun v9 heq => ?_)
  refine lv_isub hx hb d_Buf_answer_66 ?_
  refine x_min hc hl.1 wd_479 wd_147 wd_17 wd_148 (by omega) (by show 0 + 13 ≤ _; omega) ⟨by omega, by omega⟩ d_Buf_answer_67 ?_
  refine lv_istore (lv' := [(4, .int (if (v8 - v9) < x1 then (v8 - v9) else x1)), (0, .ref t0), (1, .int x1), (2, .ref x2), (3, .int x3)]) hx hb d_Buf_answer_70 hl (by decide) rfl (fun ls hl => ?_)
  refine lv_aload_n hx hb d_Buf_answer_72 rfl (lv_at hl 1 rfl) ?_
  refine x_gA hc hR fl_Buf_19 heq d_Buf_answer_73 (fun v10 heq => ?_)
  refine lv_aload_n hx hb d_Buf_answer_76 rfl (lv_at hl 1 rfl) ?_
  refine x_gI hc hR fl_Buf_23 heq d_Buf_answer_77 (fun v11 heq => ?_)
  refine lv_aload_n hx hb d_Buf_answer_80 rfl (lv_at hl 3 rfl) ?_
  refine lv_iload_n hx hb d_Buf_answer_81 rfl (lv_at hl 4 rfl) ?_
  refine lv_iload hx hb d_Buf_answer_82 (lv_at hl 0 rfl) ?_
  refine x_cpI hc hR hLo hl.1 wd_478 wd_468 wd_467 wd_18 (by omega) (by show 0 + (nativeFrameWords "java/lang/System" "arraycopy" 5 + 11) ≤ _; have := cp_w; omega) heq d_Buf_answer_84 (fun h3 H locs hR hLo heq => ?_)
  refine lv_aload_n hx hb d_Buf_answer_87 rfl (lv_at hl 1 rfl) ?_
  refine lv_dup hx hb d_Buf_answer_88 rfl ?_
  refine x_gI hc hR fl_Buf_23 heq d_Buf_answer_89 (fun v12 heq => ?_)
  refine lv_iload hx hb d_Buf_answer_92 (lv_at hl 0 rfl) ?_
  refine lv_iadd hx hb d_Buf_answer_94 ?_
  refine x_pV hc hR hLo fl_Buf_23 (Or.inl rfl) rfl rfl heq d_Buf_answer_95 (fun h4 H locs hR hLo heq => ?_)
  refine lv_aload_n hx hb d_Buf_answer_98 rfl (lv_at hl 1 rfl) ?_
  refine x_ck heq (fun tt fs ha ht heq => ?_)
  obtain rfl : tt = 3 := by simpa using ht
  refine x_bV (mc := 0) (ms := 0) (st := []) hc hLo heq ⟨by omega, by omega⟩ (fun r9 h9 => x_runV hc (c_Buf_forgetWhatNoMarkKeeps hc.g rm_Buf_forgetWhatNoMarkKeeps rk_Buf_forgetWhatNoMarkKeeps _ _ _ h9) md_Buf_forgetWhatNoMarkKeeps hR ha rfl wd_480 wd_482 sp_7 hl.1 ml_Buf_forgetWhatNoMarkKeeps rfl (Nat.le_of_ble_eq_true rfl) d_Buf_answer_99 ⟨by show 0 + 1 ≤ _; omega, by show 8 + (1 + 11) + (0) ≤ _; omega⟩ ⟨by show 0 + 0 ≤ _; omega, by show 0 + 0 ≤ _; omega⟩) (fun h5 H locs hR hLo heq => ?_)
  refine lv_iload hx hb d_Buf_answer_102 (lv_at hl 0 rfl) ?_
  exact x_iret hc hR hLo ⟨by omega, by omega⟩ heq d_Buf_answer_104
set_option maxRecDepth 100000 in
set_option maxHeartbeats 4000000 in
theorem k_Buf_answer_b54 {p : Program} {l : Launch} {e : Env} {s : State} {m : MethodId} {args : Array Value} {below : List Frame} {meth : Method} {c : Code} {s0 : State} {A0 : Array Value} {G : Gx_t} {r : Outcome × Hs_t} {rm : Room} (FW LW : Nat) (w_answer : Nat → Int32 → Nat → Int32 → Hs_t → Rs_t) (hc : Cx_t p s m meth c s0 A0 l G y_Buf_answer b_Buf_answer 5 (some .int) []) (hrm : rm_Ok 0 0 (FW + 2) (LW + 61) rm) (hw_answer : ∀ (a : Nat) (x1 : Int32) (x2 : Nat) (x3 : Int32) (h : Hs_t) (r0 : Outcome × Hs_t), w_answer a x1 x2 x3 h = some r0 → V_X G s0 l xn_answer { frames := FW, cells := 0, slots := 0, locals := LW } a [.int x1, .ref x2, .int x3] h r0) : ∀ (x4 : Int32) (h0 : Hs_t) (H : Heap) (locs : List Loc) (ls : Array Slot), Rp_h G s0.heap h0 H → Lo_k s0 locs → lv_has ls 5 [(4, .int x4)] → f_Buf_answer_b54 w_answer x4 h0 = some r → W p l e rm s m args below meth c H locs 0 0 (xq_MQ G s0 below r s rm.cells rm.slots) (F0 m 54 ls []) := by
  have hx := hc.x
  have hb := hc.b
  obtain ⟨hm1, hm2, hm3, hm4⟩ := id hrm
  intro x4 h0 H locs ls hR hLo hl heq
  unfold f_Buf_answer_b54 at heq
  refine lv_iload hx hb d_Buf_answer_54 (lv_at hl 0 rfl) ?_
  exact x_iret hc hR hLo ⟨by omega, by omega⟩ heq d_Buf_answer_56
set_option maxRecDepth 100000 in
set_option maxHeartbeats 4000000 in
theorem k_Buf_answer_b37 {p : Program} {l : Launch} {e : Env} {s : State} {m : MethodId} {args : Array Value} {below : List Frame} {meth : Method} {c : Code} {s0 : State} {A0 : Array Value} {G : Gx_t} {r : Outcome × Hs_t} {rm : Room} (FW LW : Nat) (w_answer : Nat → Int32 → Nat → Int32 → Hs_t → Rs_t) (hc : Cx_t p s m meth c s0 A0 l G y_Buf_answer b_Buf_answer 5 (some .int) []) (hrm : rm_Ok 0 0 (FW + 2) (LW + 61) rm) (hw_answer : ∀ (a : Nat) (x1 : Int32) (x2 : Nat) (x3 : Int32) (h : Hs_t) (r0 : Outcome × Hs_t), w_answer a x1 x2 x3 h = some r0 → V_X G s0 l xn_answer { frames := FW, cells := 0, slots := 0, locals := LW } a [.int x1, .ref x2, .int x3] h r0) : ∀ (t0 : Nat) (x1 : Int32) (x2 : Nat) (x3 : Int32) (h0 : Hs_t) (H : Heap) (locs : List Loc) (ls : Array Slot), Rp_h G s0.heap h0 H → Lo_k s0 locs → lv_has ls 5 [(0, .ref t0), (1, .int x1), (2, .ref x2), (3, .int x3)] → f_Buf_answer_b37 w_answer t0 x1 x2 x3 h0 = some r → W p l e rm s m args below meth c H locs 0 0 (xq_MQ G s0 below r s rm.cells rm.slots) (F0 m 37 ls []) := by
  have hx := hc.x
  have hb := hc.b
  obtain ⟨hm1, hm2, hm3, hm4⟩ := id hrm
  intro t0 x1 x2 x3 h0 H locs ls hR hLo hl heq
  unfold f_Buf_answer_b37 at heq
  refine lv_aload_n hx hb d_Buf_answer_37 rfl (lv_at hl 0 rfl) ?_
  refine x_ck heq (fun tt fs ha ht heq => ?_)
  obtain rfl : tt = 3 := by simpa using ht
  refine x_bI (mc := 0) (ms := 0) (st := []) hc hLo heq ⟨by omega, by omega⟩ (fun r9 h9 => x_runV hc (c_Buf_fill hc.g FW LW w_answer { frames := FW + 1, cells := 0, slots := 0, locals := LW + 40 } ⟨Nat.le_refl _, Nat.le_refl _, Nat.le_refl _, Nat.le_refl _⟩ hw_answer _ _ _ h9) md_Buf_fill hR ha rfl wd_474 wd_476 sp_6 hl.1 ml_Buf_fill rfl (Nat.le_of_ble_eq_true rfl) d_Buf_answer_38 ⟨by show FW + 1 + 1 ≤ _; omega, by show 8 + (2 + 11) + (LW + 40) ≤ _; omega⟩ ⟨by show 0 + 0 ≤ _; omega, by show 0 + 0 ≤ _; omega⟩) (fun v7 h2 H locs hR hLo heq => ?_)
  refine lv_istore (lv' := [(4, .int v7), (0, .ref t0), (1, .int x1), (2, .ref x2), (3, .int x3)]) hx hb d_Buf_answer_41 hl (by decide) rfl (fun ls hl => ?_)
  refine lv_iload hx hb d_Buf_answer_43 (lv_at hl 0 rfl) ?_
  refine lv_iconst (v := (-1)) hx hb d_Buf_answer_45 (by decide) ?_
  refine lv_icmp_eq (tgt := 54) hx hb d_Buf_answer_46 rfl (fun hq => ?_) (fun hq => ?_)
  · rw [if_pos hq] at heq
    refine W.widen (k := 0) (n := 0) (by omega) (by omega) ?_
    exact k_Buf_answer_b54 FW LW w_answer hc hrm hw_answer v7 h2 H locs ls hR hLo (lv_sub hl [0] rfl) heq
  · rw [if_neg hq] at heq
    refine lv_iload hx hb d_Buf_answer_49 (lv_at hl 0 rfl) ?_
    refine lv_if_ne (tgt := 57) hx hb d_Buf_answer_51 rfl (fun hq => ?_) (fun hq => ?_)
    · rw [if_neg hq] at heq
      refine W.widen (k := 0) (n := 0) (by omega) (by omega) ?_
      exact k_Buf_answer_b57 FW LW w_answer hc hrm hw_answer t0 x1 x2 x3 h2 H locs ls hR hLo (lv_sub hl [1, 2, 3, 4] rfl) heq
    · rw [if_pos hq] at heq
      refine W.widen (k := 0) (n := 0) (by omega) (by omega) ?_
      exact k_Buf_answer_b54 FW LW w_answer hc hrm hw_answer v7 h2 H locs ls hR hLo (lv_sub hl [0] rfl) heq
set_option maxRecDepth 100000 in
set_option maxHeartbeats 4000000 in
theorem c_Buf_answer {l : Launch} {s0 : State} {A0 : Array Value} {G : Gx_t} (hG : G_0 l s0 A0 G) (FW LW : Nat) (w_answer : Nat → Int32 → Nat → Int32 → Hs_t → Rs_t) (rm : Room) (hrm : rm_Ok 0 0 (FW + 2) (LW + 61) rm) (hw_answer : ∀ (a : Nat) (x1 : Int32) (x2 : Nat) (x3 : Int32) (h : Hs_t) (r0 : Outcome × Hs_t), w_answer a x1 x2 x3 h = some r0 → V_X G s0 l xn_answer { frames := FW, cells := 0, slots := 0, locals := LW } a [.int x1, .ref x2, .int x3] h r0) (t0 : Nat) (x1 : Int32) (x2 : Nat) (x3 : Int32) (h0 : Hs_t) (r : Outcome × Hs_t) (heq : f_Buf_answer w_answer t0 x1 x2 x3 h0 = some r) : M_X G s0 l y_Buf_answer (.code y_Buf_answer b_Buf_answer 5 (some .int)) rm [.ref t0, .int x1, .ref x2, .int x3] h0 r := by
  refine M_X.of (by decide) hG (fun p e s m below meth c H hc hR => ?_)
  have hx := hc.x
  have hb := hc.b
  obtain ⟨hm1, hm2, hm3, hm4⟩ := id hrm
  have hLo : Lo_k s0 [] := fun _ hq => absurd hq List.not_mem_nil
  have hl := lv_entry ([.ref t0, .int x1, .ref x2, .int x3]) (n := 5) (Nat.le_of_ble_eq_true rfl)
  rw [lg_entry_eq]
  generalize (lg_sl ([.ref t0, .int x1, .ref x2, .int x3]) ++ List.replicate (5 - (lg_sl ([.ref t0, .int x1, .ref x2, .int x3])).length) Slot.unset).toArray = ls at hl ⊢
  have hl : lv_has ls 5 [(0, .ref t0), (1, .int x1), (2, .ref x2), (3, .int x3)] := hl
  generalize hle : ([] : List Loc) = locs at hLo ⊢
  unfold f_Buf_answer at heq
  refine lv_aload_n hx hb d_Buf_answer_0 rfl (lv_at hl 0 rfl) ?_
  refine x_gI hc hR fl_Buf_23 heq d_Buf_answer_1 (fun v1 heq => ?_)
  refine lv_aload_n hx hb d_Buf_answer_4 rfl (lv_at hl 0 rfl) ?_
  refine x_gI hc hR fl_Buf_26 heq d_Buf_answer_5 (fun v2 heq => ?_)
  refine lv_icmp_ne (tgt := 57) hx hb d_Buf_answer_8 rfl (fun hq => ?_) (fun hq => ?_)
  · rw [if_neg hq] at heq
    refine W.widen (k := 0) (n := 0) (by omega) (by omega) ?_
    exact k_Buf_answer_b57 FW LW w_answer hc hrm hw_answer t0 x1 x2 x3 h0 H locs ls hR hLo (lv_sub hl [0, 1, 2, 3] rfl) heq
  · rw [if_pos hq] at heq
    refine lv_iload_n hx hb d_Buf_answer_11 rfl (lv_at hl 1 rfl) ?_
    refine lv_aload_n hx hb d_Buf_answer_12 rfl (lv_at hl 0 rfl) ?_
    refine x_gI hc hR fl_Buf_15 heq d_Buf_answer_13 (fun v3 heq => ?_)
    refine lv_icmp_lt (tgt := 37) hx hb d_Buf_answer_16 rfl (fun hq => ?_) (fun hq => ?_)
    · rw [if_pos hq] at heq
      refine W.widen (k := 0) (n := 0) (by omega) (by omega) ?_
      exact k_Buf_answer_b37 FW LW w_answer hc hrm hw_answer t0 x1 x2 x3 h0 H locs ls hR hLo (lv_sub hl [0, 1, 2, 3] rfl) heq
    · rw [if_neg hq] at heq
      refine lv_aload_n hx hb d_Buf_answer_19 rfl (lv_at hl 0 rfl) ?_
      refine x_gI hc hR fl_Buf_29 heq d_Buf_answer_20 (fun v4 heq => ?_)
      refine lv_if_ne (tgt := 37) hx hb d_Buf_answer_23 rfl (fun hq => ?_) (fun hq => ?_)
      · rw [if_neg hq] at heq
        refine W.widen (k := 0) (n := 0) (by omega) (by omega) ?_
        exact k_Buf_answer_b37 FW LW w_answer hc hrm hw_answer t0 x1 x2 x3 h0 H locs ls hR hLo (lv_sub hl [0, 1, 2, 3] rfl) heq
      · rw [if_pos hq] at heq
        refine lv_aload_n hx hb d_Buf_answer_26 rfl (lv_at hl 0 rfl) ?_
        refine x_gA hc hR fl_Buf_9 heq d_Buf_answer_27 (fun v5 heq => ?_)
        refine lv_iload_n hx hb d_Buf_answer_30 rfl (lv_at hl 1 rfl) ?_
        refine lv_aload_n hx hb d_Buf_answer_31 rfl (lv_at hl 2 rfl) ?_
        refine lv_iload_n hx hb d_Buf_answer_32 rfl (lv_at hl 3 rfl) ?_
        refine x_bI (mc := 0) (ms := 0) (st := []) hc hLo heq ⟨by omega, by omega⟩ (fun r9 h9 => x_runW hc (hw_answer _ _ _ _ _ _ h9) hR wd_449 wd_445 (Or.inl wd_444) (by decide) hl.1 xl_answer rfl (Nat.le_of_ble_eq_true rfl) d_Buf_answer_33 ⟨by show FW + 0 + 1 ≤ _; omega, by show 8 + (10 + 11) + (LW + 0) ≤ _; omega⟩ ⟨by show 0 + 0 ≤ _; omega, by show 0 + 0 ≤ _; omega⟩) (fun v6 h1 H locs hR hLo heq => ?_)
        exact x_iret hc hR hLo ⟨by omega, by omega⟩ heq d_Buf_answer_36
def f_Buf_ready (w_ready : Nat → Hs_t → Rs_t) (t0 : Nat) (h0 : Hs_t) : Rs_t := (fd_I [3] 5 h0 t0).bind fun v1 => (fd_I [3] 4 h0 t0).bind fun v2 => (fd_A [3] 0 h0 t0).bind fun v3 => bd_I (w_ready v3 h0) (fun v4 h1 => re_I ((v1 - v2) + v4) h1)
set_option maxRecDepth 100000 in
set_option maxHeartbeats 4000000 in
theorem c_Buf_ready {l : Launch} {s0 : State} {A0 : Array Value} {G : Gx_t} (hG : G_0 l s0 A0 G) (FW LW : Nat) (w_ready : Nat → Hs_t → Rs_t) (rm : Room) (hrm : rm_Ok 0 0 (FW + 1) (LW + 29) rm) (hw_ready : ∀ (a : Nat) (h : Hs_t) (r0 : Outcome × Hs_t), w_ready a h = some r0 → V_X G s0 l xn_ready { frames := FW, cells := 0, slots := 0, locals := LW } a [] h r0) (t0 : Nat) (h0 : Hs_t) (r : Outcome × Hs_t) (heq : f_Buf_ready w_ready t0 h0 = some r) : M_X G s0 l y_Buf_ready (.code y_Buf_ready b_Buf_ready 1 (some .int)) rm [.ref t0] h0 r := by
  refine M_X.of (by decide) hG (fun p e s m below meth c H hc hR => ?_)
  have hx := hc.x
  have hb := hc.b
  obtain ⟨hm1, hm2, hm3, hm4⟩ := id hrm
  have hLo : Lo_k s0 [] := fun _ hq => absurd hq List.not_mem_nil
  have hl := lv_entry ([.ref t0]) (n := 1) (Nat.le_of_ble_eq_true rfl)
  rw [lg_entry_eq]
  generalize (lg_sl ([.ref t0]) ++ List.replicate (1 - (lg_sl ([.ref t0])).length) Slot.unset).toArray = ls at hl ⊢
  have hl : lv_has ls 1 [(0, .ref t0)] := hl
  generalize hle : ([] : List Loc) = locs at hLo ⊢
  unfold f_Buf_ready at heq
  refine lv_aload_n hx hb d_Buf_ready_0 rfl (lv_at hl 0 rfl) ?_
  refine x_gI hc hR fl_Buf_26 heq d_Buf_ready_1 (fun v1 heq => ?_)
  refine lv_aload_n hx hb d_Buf_ready_4 rfl (lv_at hl 0 rfl) ?_
  refine x_gI hc hR fl_Buf_23 heq d_Buf_ready_5 (fun v2 heq => ?_)
  refine lv_isub hx hb d_Buf_ready_8 ?_
  refine lv_aload_n hx hb d_Buf_ready_9 rfl (lv_at hl 0 rfl) ?_
  refine x_gA hc hR fl_Buf_9 heq d_Buf_ready_10 (fun v3 heq => ?_)
  refine x_bI (mc := 0) (ms := 0) (st := [.int (v1 - v2)]) hc hLo heq ⟨by omega, by omega⟩ (fun r9 h9 => x_runW hc (hw_ready _ _ _ h9) hR wd_134 wd_130 (Or.inl wd_129) (by decide) hl.1 xl_ready rfl (Nat.le_of_ble_eq_true rfl) d_Buf_ready_13 ⟨by show FW + 0 + 1 ≤ _; omega, by show 8 + (10 + 11) + (LW + 0) ≤ _; omega⟩ ⟨by show 0 + 0 ≤ _; omega, by show 0 + 0 ≤ _; omega⟩) (fun v4 h1 H locs hR hLo heq => ?_)
  refine lv_iadd hx hb d_Buf_ready_16 ?_
  exact x_iret hc hR hLo ⟨by omega, by omega⟩ heq d_Buf_ready_17
def f_Buf_state (t0 : Nat) (h0 : Hs_t) : Rs_t := (fd_I [3] 5 h0 t0).bind fun v1 => (fd_I [3] 4 h0 t0).bind fun v2 => re_I (v1 - v2) h0
set_option maxRecDepth 100000 in
set_option maxHeartbeats 4000000 in
theorem c_Buf_state {l : Launch} {s0 : State} {A0 : Array Value} {G : Gx_t} (hG : G_0 l s0 A0 G) (rm : Room) (hrm : rm_Ok 0 0 0 0 rm) (t0 : Nat) (h0 : Hs_t) (r : Outcome × Hs_t) (heq : f_Buf_state t0 h0 = some r) : M_X G s0 l y_Buf_state (.code y_Buf_state b_Buf_state 1 (some .int)) rm [.ref t0] h0 r := by
  refine M_X.of (by decide) hG (fun p e s m below meth c H hc hR => ?_)
  have hx := hc.x
  have hb := hc.b
  obtain ⟨hm1, hm2, hm3, hm4⟩ := id hrm
  have hLo : Lo_k s0 [] := fun _ hq => absurd hq List.not_mem_nil
  have hl := lv_entry ([.ref t0]) (n := 1) (Nat.le_of_ble_eq_true rfl)
  rw [lg_entry_eq]
  generalize (lg_sl ([.ref t0]) ++ List.replicate (1 - (lg_sl ([.ref t0])).length) Slot.unset).toArray = ls at hl ⊢
  have hl : lv_has ls 1 [(0, .ref t0)] := hl
  generalize hle : ([] : List Loc) = locs at hLo ⊢
  unfold f_Buf_state at heq
  refine lv_aload_n hx hb d_Buf_state_0 rfl (lv_at hl 0 rfl) ?_
  refine x_gI hc hR fl_Buf_26 heq d_Buf_state_1 (fun v1 heq => ?_)
  refine lv_aload_n hx hb d_Buf_state_4 rfl (lv_at hl 0 rfl) ?_
  refine x_gI hc hR fl_Buf_23 heq d_Buf_state_5 (fun v2 heq => ?_)
  refine lv_isub hx hb d_Buf_state_8 ?_
  exact x_iret hc hR hLo ⟨by omega, by omega⟩ heq d_Buf_state_9
def rm_Buf_state : Room := { frames := 0, cells := 0, slots := 0, locals := 0 }
theorem rk_Buf_state : rm_Ok 0 0 0 0 rm_Buf_state := ⟨Nat.le_refl _, Nat.le_refl _, Nat.le_refl _, Nat.le_refl _⟩
def f_Buf_canBeMarked (t0 : Nat) (h0 : Hs_t) : Rs_t := re_Z 1 h0
set_option maxRecDepth 100000 in
set_option maxHeartbeats 4000000 in
theorem c_Buf_canBeMarked {l : Launch} {s0 : State} {A0 : Array Value} {G : Gx_t} (hG : G_0 l s0 A0 G) (rm : Room) (hrm : rm_Ok 0 0 0 0 rm) (t0 : Nat) (h0 : Hs_t) (r : Outcome × Hs_t) (heq : f_Buf_canBeMarked t0 h0 = some r) : M_X G s0 l y_Buf_canBeMarked (.code y_Buf_canBeMarked b_Buf_canBeMarked 1 (some .boolean)) rm [.ref t0] h0 r := by
  refine M_X.of (by decide) hG (fun p e s m below meth c H hc hR => ?_)
  have hx := hc.x
  have hb := hc.b
  obtain ⟨hm1, hm2, hm3, hm4⟩ := id hrm
  have hLo : Lo_k s0 [] := fun _ hq => absurd hq List.not_mem_nil
  have hl := lv_entry ([.ref t0]) (n := 1) (Nat.le_of_ble_eq_true rfl)
  rw [lg_entry_eq]
  generalize (lg_sl ([.ref t0]) ++ List.replicate (1 - (lg_sl ([.ref t0])).length) Slot.unset).toArray = ls at hl ⊢
  have hl : lv_has ls 1 [(0, .ref t0)] := hl
  generalize hle : ([] : List Loc) = locs at hLo ⊢
  unfold f_Buf_canBeMarked at heq
  refine lv_iconst (v := 1) hx hb d_Buf_canBeMarked_0 (by decide) ?_
  exact x_zret hc hR hLo ⟨by omega, by omega⟩ heq d_Buf_canBeMarked_1
def rm_Buf_canBeMarked : Room := { frames := 0, cells := 0, slots := 0, locals := 0 }
theorem rk_Buf_canBeMarked : rm_Ok 0 0 0 0 rm_Buf_canBeMarked := ⟨Nat.le_refl _, Nat.le_refl _, Nat.le_refl _, Nat.le_refl _⟩
def f_Buf_hasMark (t0 : Nat) (h0 : Hs_t) : Rs_t := (fd_I [3] 6 h0 t0).bind fun v1 => re_Z v1 h0
set_option maxRecDepth 100000 in
set_option maxHeartbeats 4000000 in
theorem c_Buf_hasMark {l : Launch} {s0 : State} {A0 : Array Value} {G : Gx_t} (hG : G_0 l s0 A0 G) (rm : Room) (hrm : rm_Ok 0 0 0 0 rm) (t0 : Nat) (h0 : Hs_t) (r : Outcome × Hs_t) (heq : f_Buf_hasMark t0 h0 = some r) : M_X G s0 l y_Buf_hasMark (.code y_Buf_hasMark b_Buf_hasMark 1 (some .boolean)) rm [.ref t0] h0 r := by
  refine M_X.of (by decide) hG (fun p e s m below meth c H hc hR => ?_)
  have hx := hc.x
  have hb := hc.b
  obtain ⟨hm1, hm2, hm3, hm4⟩ := id hrm
  have hLo : Lo_k s0 [] := fun _ hq => absurd hq List.not_mem_nil
  have hl := lv_entry ([.ref t0]) (n := 1) (Nat.le_of_ble_eq_true rfl)
  rw [lg_entry_eq]
  generalize (lg_sl ([.ref t0]) ++ List.replicate (1 - (lg_sl ([.ref t0])).length) Slot.unset).toArray = ls at hl ⊢
  have hl : lv_has ls 1 [(0, .ref t0)] := hl
  generalize hle : ([] : List Loc) = locs at hLo ⊢
  unfold f_Buf_hasMark at heq
  refine lv_aload_n hx hb d_Buf_hasMark_0 rfl (lv_at hl 0 rfl) ?_
  refine x_gI hc hR fl_Buf_29 heq d_Buf_hasMark_1 (fun v1 heq => ?_)
  exact x_zret hc hR hLo ⟨by omega, by omega⟩ heq d_Buf_hasMark_4
def rm_Buf_hasMark : Room := { frames := 0, cells := 0, slots := 0, locals := 0 }
theorem rk_Buf_hasMark : rm_Ok 0 0 0 0 rm_Buf_hasMark := ⟨Nat.le_refl _, Nat.le_refl _, Nat.le_refl _, Nat.le_refl _⟩
def f_Buf_takeMark (t0 : Nat) (x1 : Int32) (h0 : Hs_t) : Rs_t := (pt_Z [3] 6 h0 t0 1).bind fun h1 => (pt_V [3] 7 h1 t0 (.int x1)).bind fun h2 => (fd_I [3] 4 h2 t0).bind fun v1 => (pt_V [3] 3 h2 t0 (.int v1)).bind fun h3 => re_V h3
set_option maxRecDepth 100000 in
set_option maxHeartbeats 4000000 in
theorem c_Buf_takeMark {l : Launch} {s0 : State} {A0 : Array Value} {G : Gx_t} (hG : G_0 l s0 A0 G) (rm : Room) (hrm : rm_Ok 0 0 0 0 rm) (t0 : Nat) (x1 : Int32) (h0 : Hs_t) (r : Outcome × Hs_t) (heq : f_Buf_takeMark t0 x1 h0 = some r) : M_X G s0 l y_Buf_takeMark (.code y_Buf_takeMark b_Buf_takeMark 2 none) rm [.ref t0, .int x1] h0 r := by
  refine M_X.of (by decide) hG (fun p e s m below meth c H hc hR => ?_)
  have hx := hc.x
  have hb := hc.b
  obtain ⟨hm1, hm2, hm3, hm4⟩ := id hrm
  have hLo : Lo_k s0 [] := fun _ hq => absurd hq List.not_mem_nil
  have hl := lv_entry ([.ref t0, .int x1]) (n := 2) (Nat.le_of_ble_eq_true rfl)
  rw [lg_entry_eq]
  generalize (lg_sl ([.ref t0, .int x1]) ++ List.replicate (2 - (lg_sl ([.ref t0, .int x1])).length) Slot.unset).toArray = ls at hl ⊢
  have hl : lv_has ls 2 [(0, .ref t0), (1, .int x1)] := hl
  generalize hle : ([] : List Loc) = locs at hLo ⊢
  unfold f_Buf_takeMark at heq
  refine lv_aload_n hx hb d_Buf_takeMark_0 rfl (lv_at hl 0 rfl) ?_
  refine lv_iconst (v := 1) hx hb d_Buf_takeMark_1 (by decide) ?_
  refine x_pZ hc hR hLo fl_Buf_29 (Or.inl rfl) heq d_Buf_takeMark_2 (fun h1 H locs hR hLo heq => ?_)
  refine lv_aload_n hx hb d_Buf_takeMark_5 rfl (lv_at hl 0 rfl) ?_
  refine lv_iload_n hx hb d_Buf_takeMark_6 rfl (lv_at hl 1 rfl) ?_
  refine x_pV hc hR hLo fl_Buf_59 (Or.inl rfl) rfl rfl heq d_Buf_takeMark_7 (fun h2 H locs hR hLo heq => ?_)
  refine lv_aload_n hx hb d_Buf_takeMark_10 rfl (lv_at hl 0 rfl) ?_
  refine lv_aload_n hx hb d_Buf_takeMark_11 rfl (lv_at hl 0 rfl) ?_
  refine x_gI hc hR fl_Buf_23 heq d_Buf_takeMark_12 (fun v1 heq => ?_)
  refine x_pV hc hR hLo fl_Buf_56 (Or.inl rfl) rfl rfl heq d_Buf_takeMark_15 (fun h3 H locs hR hLo heq => ?_)
  exact x_vret hc hR hLo ⟨by omega, by omega⟩ heq d_Buf_takeMark_18
def rm_Buf_takeMark : Room := { frames := 0, cells := 0, slots := 0, locals := 0 }
theorem rk_Buf_takeMark : rm_Ok 0 0 0 0 rm_Buf_takeMark := ⟨Nat.le_refl _, Nat.le_refl _, Nat.le_refl _, Nat.le_refl _⟩
def f_Buf_goBack (t0 : Nat) (h0 : Hs_t) : Rs_t := (fd_I [3] 3 h0 t0).bind fun v1 => (pt_V [3] 4 h0 t0 (.int v1)).bind fun h1 => re_V h1
set_option maxRecDepth 100000 in
set_option maxHeartbeats 4000000 in
theorem c_Buf_goBack {l : Launch} {s0 : State} {A0 : Array Value} {G : Gx_t} (hG : G_0 l s0 A0 G) (rm : Room) (hrm : rm_Ok 0 0 0 0 rm) (t0 : Nat) (h0 : Hs_t) (r : Outcome × Hs_t) (heq : f_Buf_goBack t0 h0 = some r) : M_X G s0 l y_Buf_goBack (.code y_Buf_goBack b_Buf_goBack 1 none) rm [.ref t0] h0 r := by
  refine M_X.of (by decide) hG (fun p e s m below meth c H hc hR => ?_)
  have hx := hc.x
  have hb := hc.b
  obtain ⟨hm1, hm2, hm3, hm4⟩ := id hrm
  have hLo : Lo_k s0 [] := fun _ hq => absurd hq List.not_mem_nil
  have hl := lv_entry ([.ref t0]) (n := 1) (Nat.le_of_ble_eq_true rfl)
  rw [lg_entry_eq]
  generalize (lg_sl ([.ref t0]) ++ List.replicate (1 - (lg_sl ([.ref t0])).length) Slot.unset).toArray = ls at hl ⊢
  have hl : lv_has ls 1 [(0, .ref t0)] := hl
  generalize hle : ([] : List Loc) = locs at hLo ⊢
  unfold f_Buf_goBack at heq
  refine lv_aload_n hx hb d_Buf_goBack_0 rfl (lv_at hl 0 rfl) ?_
  refine lv_aload_n hx hb d_Buf_goBack_1 rfl (lv_at hl 0 rfl) ?_
  refine x_gI hc hR fl_Buf_56 heq d_Buf_goBack_2 (fun v1 heq => ?_)
  refine x_pV hc hR hLo fl_Buf_23 (Or.inl rfl) rfl rfl heq d_Buf_goBack_5 (fun h1 H locs hR hLo heq => ?_)
  exact x_vret hc hR hLo ⟨by omega, by omega⟩ heq d_Buf_goBack_8
def rm_Buf_goBack : Room := { frames := 0, cells := 0, slots := 0, locals := 0 }
theorem rk_Buf_goBack : rm_Ok 0 0 0 0 rm_Buf_goBack := ⟨Nat.le_refl _, Nat.le_refl _, Nat.le_refl _, Nat.le_refl _⟩
def f_Pas_init (t0 : Nat) (x1 : Nat) (h0 : Hs_t) : Rs_t := bd_V (f_Str_init t0 h0) (fun h1 => (pt_V [5, 6, 7] 0 h1 t0 (.ref x1)).bind fun h2 => re_V h2)
set_option maxRecDepth 100000 in
set_option maxHeartbeats 4000000 in
theorem c_Pas_init {l : Launch} {s0 : State} {A0 : Array Value} {G : Gx_t} (hG : G_0 l s0 A0 G) (rm : Room) (hrm : rm_Ok 0 0 2 32 rm) (t0 : Nat) (x1 : Nat) (h0 : Hs_t) (r : Outcome × Hs_t) (heq : f_Pas_init t0 x1 h0 = some r) : M_X G s0 l y_Pas_init (.code y_Pas_init b_Pas_init 2 none) rm [.ref t0, .ref x1] h0 r := by
  refine M_X.of (by decide) hG (fun p e s m below meth c H hc hR => ?_)
  have hx := hc.x
  have hb := hc.b
  obtain ⟨hm1, hm2, hm3, hm4⟩ := id hrm
  have hLo : Lo_k s0 [] := fun _ hq => absurd hq List.not_mem_nil
  have hl := lv_entry ([.ref t0, .ref x1]) (n := 2) (Nat.le_of_ble_eq_true rfl)
  rw [lg_entry_eq]
  generalize (lg_sl ([.ref t0, .ref x1]) ++ List.replicate (2 - (lg_sl ([.ref t0, .ref x1])).length) Slot.unset).toArray = ls at hl ⊢
  have hl : lv_has ls 2 [(0, .ref t0), (1, .ref x1)] := hl
  generalize hle : ([] : List Loc) = locs at hLo ⊢
  unfold f_Pas_init at heq
  refine lv_aload_n hx hb d_Pas_init_0 rfl (lv_at hl 0 rfl) ?_
  refine x_bV (mc := 0) (ms := 0) (st := []) hc hLo heq ⟨by omega, by omega⟩ (fun r9 h9 => x_runIN hc (c_Str_init hc.g rm_Str_init rk_Str_init _ _ _ h9) md_Str_init hR wd_366 wd_35 rfl ⟨_, rfl⟩ hl.1 ml_Str_init rfl (Nat.le_of_ble_eq_true rfl) d_Pas_init_1 ⟨by show 1 + 1 ≤ _; omega, by show 8 + (1 + 11) + (12) ≤ _; omega⟩ ⟨by show 0 + 0 ≤ _; omega, by show 0 + 0 ≤ _; omega⟩) (fun h1 H locs hR hLo heq => ?_)
  refine lv_aload_n hx hb d_Pas_init_4 rfl (lv_at hl 0 rfl) ?_
  refine lv_aload_n hx hb d_Pas_init_5 rfl (lv_at hl 1 rfl) ?_
  refine x_pV hc hR hLo fl_Pas_7 (Or.inr ⟨rfl, rfl⟩) rfl rfl heq d_Pas_init_6 (fun h2 H locs hR hLo heq => ?_)
  exact x_vret hc hR hLo ⟨by omega, by omega⟩ heq d_Pas_init_9
def rm_Pas_init : Room := { frames := 2, cells := 0, slots := 0, locals := 32 }
theorem rk_Pas_init : rm_Ok 0 0 2 32 rm_Pas_init := ⟨Nat.le_refl _, Nat.le_refl _, Nat.le_refl _, Nat.le_refl _⟩
def f_Cod_init (t0 : Nat) (x1 : Nat) (x2 : Int32) (h0 : Hs_t) : Rs_t := bd_V (f_Pas_init t0 x1 h0) (fun h1 => (pt_V [6] 1 h1 t0 (.int x2)).bind fun h2 => re_V h2)
set_option maxRecDepth 100000 in
set_option maxHeartbeats 4000000 in
theorem c_Cod_init {l : Launch} {s0 : State} {A0 : Array Value} {G : Gx_t} (hG : G_0 l s0 A0 G) (rm : Room) (hrm : rm_Ok 0 0 3 53 rm) (t0 : Nat) (x1 : Nat) (x2 : Int32) (h0 : Hs_t) (r : Outcome × Hs_t) (heq : f_Cod_init t0 x1 x2 h0 = some r) : M_X G s0 l y_Cod_init (.code y_Cod_init b_Cod_init 3 none) rm [.ref t0, .ref x1, .int x2] h0 r := by
  refine M_X.of (by decide) hG (fun p e s m below meth c H hc hR => ?_)
  have hx := hc.x
  have hb := hc.b
  obtain ⟨hm1, hm2, hm3, hm4⟩ := id hrm
  have hLo : Lo_k s0 [] := fun _ hq => absurd hq List.not_mem_nil
  have hl := lv_entry ([.ref t0, .ref x1, .int x2]) (n := 3) (Nat.le_of_ble_eq_true rfl)
  rw [lg_entry_eq]
  generalize (lg_sl ([.ref t0, .ref x1, .int x2]) ++ List.replicate (3 - (lg_sl ([.ref t0, .ref x1, .int x2])).length) Slot.unset).toArray = ls at hl ⊢
  have hl : lv_has ls 3 [(0, .ref t0), (1, .ref x1), (2, .int x2)] := hl
  generalize hle : ([] : List Loc) = locs at hLo ⊢
  unfold f_Cod_init at heq
  refine lv_aload_n hx hb d_Cod_init_0 rfl (lv_at hl 0 rfl) ?_
  refine lv_aload_n hx hb d_Cod_init_1 rfl (lv_at hl 1 rfl) ?_
  refine x_bV (mc := 0) (ms := 0) (st := []) hc hLo heq ⟨by omega, by omega⟩ (fun r9 h9 => x_runI hc (c_Pas_init hc.g rm_Pas_init rk_Pas_init _ _ _ _ h9) md_Pas_init hR wd_388 wd_364 rfl ⟨_, rfl⟩ hl.1 ml_Pas_init rfl (Nat.le_of_ble_eq_true rfl) d_Cod_init_2 ⟨by show 2 + 1 ≤ _; omega, by show 8 + (2 + 11) + (32) ≤ _; omega⟩ ⟨by show 0 + 0 ≤ _; omega, by show 0 + 0 ≤ _; omega⟩) (fun h1 H locs hR hLo heq => ?_)
  refine lv_aload_n hx hb d_Cod_init_5 rfl (lv_at hl 0 rfl) ?_
  refine lv_iload_n hx hb d_Cod_init_6 rfl (lv_at hl 2 rfl) ?_
  refine x_pV hc hR hLo fl_Cod_9 (Or.inr ⟨rfl, rfl⟩) rfl rfl heq d_Cod_init_7 (fun h2 H locs hR hLo heq => ?_)
  exact x_vret hc hR hLo ⟨by omega, by omega⟩ heq d_Cod_init_10
def rm_Cod_init : Room := { frames := 3, cells := 0, slots := 0, locals := 53 }
theorem rk_Cod_init : rm_Ok 0 0 3 53 rm_Cod_init := ⟨Nat.le_refl _, Nat.le_refl _, Nat.le_refl _, Nat.le_refl _⟩
def f_Cod_answer_b15 (w_answer : Nat → Int32 → Nat → Int32 → Hs_t → Rs_t) : Nat → Nat → Nat → Int32 → Int32 → Int32 → Hs_t → Rs_t
  | 0, _, _, _, _, _, _ => none
  | n + 1, t0, x2, x3, x4, x5, h0 => if x4 ≤ x5 then (re_I x4 h0) else ((ar_I h0 x2 (x3 + x5)).bind fun v3 => (fd_I [6] 1 h0 t0).bind fun v4 => (fd_I [6] 2 h0 t0).bind fun v5 => (as_I h0 x2 (x3 + x5) (v3 ^^^ ((v4 + v5) &&& 255))).bind fun h2 => (fd_I [6] 2 h2 t0).bind fun v6 => (pt_V [6] 2 h2 t0 (.int (v6 + 1))).bind fun h3 => (f_Cod_answer_b15 w_answer n) t0 x2 x3 x4 (x5 + 1) h3)
def f_Cod_answer (w_answer : Nat → Int32 → Nat → Int32 → Hs_t → Rs_t) (t0 : Nat) (x1 : Int32) (x2 : Nat) (x3 : Int32) (h0 : Hs_t) : Rs_t := (fd_A [6] 0 h0 t0).bind fun v1 => bd_I (w_answer v1 x1 x2 x3 h0) (fun v2 h1 => f_Cod_answer_b15 w_answer fu_N t0 x2 x3 v2 0 h1)
set_option maxRecDepth 100000 in
set_option maxHeartbeats 4000000 in
theorem k_Cod_answer_b15 {p : Program} {l : Launch} {e : Env} {s : State} {m : MethodId} {args : Array Value} {below : List Frame} {meth : Method} {c : Code} {s0 : State} {A0 : Array Value} {G : Gx_t} {r : Outcome × Hs_t} {rm : Room} (FW LW : Nat) (w_answer : Nat → Int32 → Nat → Int32 → Hs_t → Rs_t) (hc : Cx_t p s m meth c s0 A0 l G y_Cod_answer b_Cod_answer 6 (some .int) []) (hrm : rm_Ok 0 0 (FW + 1) (LW + 29) rm) (hw_answer : ∀ (a : Nat) (x1 : Int32) (x2 : Nat) (x3 : Int32) (h : Hs_t) (r0 : Outcome × Hs_t), w_answer a x1 x2 x3 h = some r0 → V_X G s0 l xn_answer { frames := FW, cells := 0, slots := 0, locals := LW } a [.int x1, .ref x2, .int x3] h r0) : ∀ (n : Nat) (t0 : Nat) (x2 : Nat) (x3 : Int32) (x4 : Int32) (x5 : Int32) (h0 : Hs_t) (H : Heap) (locs : List Loc) (ls : Array Slot), Rp_h G s0.heap h0 H → Lo_k s0 locs → lv_has ls 6 [(0, .ref t0), (2, .ref x2), (3, .int x3), (4, .int x4), (5, .int x5)] → f_Cod_answer_b15 w_answer n t0 x2 x3 x4 x5 h0 = some r → W p l e rm s m args below meth c H locs 0 0 (xq_MQ G s0 below r s rm.cells rm.slots) (F0 m 15 ls []) := by
  have hx := hc.x
  have hb := hc.b
  obtain ⟨hm1, hm2, hm3, hm4⟩ := id hrm
  intro n
  induction n with
  | zero =>
    intro t0 x2 x3 x4 x5 h0 H locs ls hR hLo hl heq
    unfold f_Cod_answer_b15 at heq
    cases heq
  | succ n hr15 =>
    intro t0 x2 x3 x4 x5 h0 H locs ls hR hLo hl heq
    unfold f_Cod_answer_b15 at heq
    refine lv_iload hx hb d_Cod_answer_15 (lv_at hl 4 rfl) ?_
    refine lv_iload hx hb d_Cod_answer_17 (lv_at hl 3 rfl) ?_
    refine lv_icmp_ge (tgt := 60) hx hb d_Cod_answer_19 rfl (fun hq => ?_) (fun hq => ?_)
    · rw [if_pos hq] at heq
      refine lv_iload hx hb d_Cod_answer_60 (lv_at hl 3 rfl) ?_
      exact x_iret hc hR hLo ⟨by omega, by omega⟩ heq d_Cod_answer_62
    · rw [if_neg hq] at heq
      refine lv_aload_n hx hb d_Cod_answer_22 rfl (lv_at hl 1 rfl) ?_
      refine lv_iload_n hx hb d_Cod_answer_23 rfl (lv_at hl 2 rfl) ?_
      refine lv_iload hx hb d_Cod_answer_24 (lv_at hl 4 rfl) ?_
      refine lv_iadd hx hb d_Cod_answer_26 ?_
      refine lv_dup2_11 hx hb d_Cod_answer_27 rfl rfl ?_
      refine x_aI hc hR heq d_Cod_answer_28 (fun v3 heq => ?_)
      refine lv_aload_n hx hb d_Cod_answer_29 rfl (lv_at hl 0 rfl) ?_
      refine x_gI hc hR fl_Cod_9 heq d_Cod_answer_30 (fun v4 heq => ?_)
      refine lv_aload_n hx hb d_Cod_answer_33 rfl (lv_at hl 0 rfl) ?_
      refine x_gI hc hR fl_Cod_25 heq d_Cod_answer_34 (fun v5 heq => ?_)
      refine lv_iadd hx hb d_Cod_answer_37 ?_
      refine lv_sipush (v := 255) hx hb d_Cod_answer_38 (by decide) ?_
      refine lv_iand hx hb d_Cod_answer_41 ?_
      refine lv_ixor hx hb d_Cod_answer_42 ?_
      refine x_sI hc hR hLo heq d_Cod_answer_43 (fun h2 H locs hR hLo heq => ?_)
      refine lv_aload_n hx hb d_Cod_answer_44 rfl (lv_at hl 0 rfl) ?_
      refine lv_dup hx hb d_Cod_answer_45 rfl ?_
      refine x_gI hc hR fl_Cod_25 heq d_Cod_answer_46 (fun v6 heq => ?_)
      refine lv_iconst (v := 1) hx hb d_Cod_answer_49 (by decide) ?_
      refine lv_iadd hx hb d_Cod_answer_50 ?_
      refine x_pV hc hR hLo fl_Cod_25 (Or.inl rfl) rfl rfl heq d_Cod_answer_51 (fun h3 H locs hR hLo heq => ?_)
      refine lv_iinc (k := 4) (v := (x5 + 1)) (lv' := [(5, .int (x5 + 1)), (0, .ref t0), (2, .ref x2), (3, .int x3), (4, .int x4)]) hx hb d_Cod_answer_54 hl rfl rfl (by decide) rfl (fun ls hl => ?_)
      refine lv_goto (tgt := 15) hx hb d_Cod_answer_57 rfl ?_
      refine W.widen (k := 0) (n := 0) (by omega) (by omega) ?_
      exact hr15 t0 x2 x3 x4 (x5 + 1) h3 H locs ls hR hLo (lv_sub hl [1, 2, 3, 4, 0] rfl) heq
set_option maxRecDepth 100000 in
set_option maxHeartbeats 4000000 in
theorem c_Cod_answer {l : Launch} {s0 : State} {A0 : Array Value} {G : Gx_t} (hG : G_0 l s0 A0 G) (FW LW : Nat) (w_answer : Nat → Int32 → Nat → Int32 → Hs_t → Rs_t) (rm : Room) (hrm : rm_Ok 0 0 (FW + 1) (LW + 29) rm) (hw_answer : ∀ (a : Nat) (x1 : Int32) (x2 : Nat) (x3 : Int32) (h : Hs_t) (r0 : Outcome × Hs_t), w_answer a x1 x2 x3 h = some r0 → V_X G s0 l xn_answer { frames := FW, cells := 0, slots := 0, locals := LW } a [.int x1, .ref x2, .int x3] h r0) (t0 : Nat) (x1 : Int32) (x2 : Nat) (x3 : Int32) (h0 : Hs_t) (r : Outcome × Hs_t) (heq : f_Cod_answer w_answer t0 x1 x2 x3 h0 = some r) : M_X G s0 l y_Cod_answer (.code y_Cod_answer b_Cod_answer 6 (some .int)) rm [.ref t0, .int x1, .ref x2, .int x3] h0 r := by
  refine M_X.of (by decide) hG (fun p e s m below meth c H hc hR => ?_)
  have hx := hc.x
  have hb := hc.b
  obtain ⟨hm1, hm2, hm3, hm4⟩ := id hrm
  have hLo : Lo_k s0 [] := fun _ hq => absurd hq List.not_mem_nil
  have hl := lv_entry ([.ref t0, .int x1, .ref x2, .int x3]) (n := 6) (Nat.le_of_ble_eq_true rfl)
  rw [lg_entry_eq]
  generalize (lg_sl ([.ref t0, .int x1, .ref x2, .int x3]) ++ List.replicate (6 - (lg_sl ([.ref t0, .int x1, .ref x2, .int x3])).length) Slot.unset).toArray = ls at hl ⊢
  have hl : lv_has ls 6 [(0, .ref t0), (1, .int x1), (2, .ref x2), (3, .int x3)] := hl
  generalize hle : ([] : List Loc) = locs at hLo ⊢
  unfold f_Cod_answer at heq
  refine lv_aload_n hx hb d_Cod_answer_0 rfl (lv_at hl 0 rfl) ?_
  refine x_gA hc hR fl_Cod_15 heq d_Cod_answer_1 (fun v1 heq => ?_)
  refine lv_iload_n hx hb d_Cod_answer_4 rfl (lv_at hl 1 rfl) ?_
  refine lv_aload_n hx hb d_Cod_answer_5 rfl (lv_at hl 2 rfl) ?_
  refine lv_iload_n hx hb d_Cod_answer_6 rfl (lv_at hl 3 rfl) ?_
  refine x_bI (mc := 0) (ms := 0) (st := []) hc hLo heq ⟨by omega, by omega⟩ (fun r9 h9 => x_runW hc (hw_answer _ _ _ _ _ _ h9) hR wd_452 wd_445 (Or.inl wd_444) (by decide) hl.1 xl_answer rfl (Nat.le_of_ble_eq_true rfl) d_Cod_answer_7 ⟨by show FW + 0 + 1 ≤ _; omega, by show 8 + (10 + 11) + (LW + 0) ≤ _; omega⟩ ⟨by show 0 + 0 ≤ _; omega, by show 0 + 0 ≤ _; omega⟩) (fun v2 h1 H locs hR hLo heq => ?_)
  refine lv_istore (lv' := [(4, .int v2), (0, .ref t0), (1, .int x1), (2, .ref x2), (3, .int x3)]) hx hb d_Cod_answer_10 hl (by decide) rfl (fun ls hl => ?_)
  refine lv_iconst (v := 0) hx hb d_Cod_answer_12 (by decide) ?_
  refine lv_istore (lv' := [(5, .int 0), (4, .int v2), (0, .ref t0), (1, .int x1), (2, .ref x2), (3, .int x3)]) hx hb d_Cod_answer_13 hl (by decide) rfl (fun ls hl => ?_)
  refine W.widen (k := 0) (n := 0) (by omega) (by omega) ?_
  exact k_Cod_answer_b15 FW LW w_answer hc hrm hw_answer fu_N t0 x2 x3 v2 0 h1 H locs ls hR hLo (lv_sub hl [2, 4, 5, 1, 0] rfl) heq
def f_Cod_state (t0 : Nat) (h0 : Hs_t) : Rs_t := (fd_I [6] 2 h0 t0).bind fun v1 => re_I v1 h0
set_option maxRecDepth 100000 in
set_option maxHeartbeats 4000000 in
theorem c_Cod_state {l : Launch} {s0 : State} {A0 : Array Value} {G : Gx_t} (hG : G_0 l s0 A0 G) (rm : Room) (hrm : rm_Ok 0 0 0 0 rm) (t0 : Nat) (h0 : Hs_t) (r : Outcome × Hs_t) (heq : f_Cod_state t0 h0 = some r) : M_X G s0 l y_Cod_state (.code y_Cod_state b_Cod_state 1 (some .int)) rm [.ref t0] h0 r := by
  refine M_X.of (by decide) hG (fun p e s m below meth c H hc hR => ?_)
  have hx := hc.x
  have hb := hc.b
  obtain ⟨hm1, hm2, hm3, hm4⟩ := id hrm
  have hLo : Lo_k s0 [] := fun _ hq => absurd hq List.not_mem_nil
  have hl := lv_entry ([.ref t0]) (n := 1) (Nat.le_of_ble_eq_true rfl)
  rw [lg_entry_eq]
  generalize (lg_sl ([.ref t0]) ++ List.replicate (1 - (lg_sl ([.ref t0])).length) Slot.unset).toArray = ls at hl ⊢
  have hl : lv_has ls 1 [(0, .ref t0)] := hl
  generalize hle : ([] : List Loc) = locs at hLo ⊢
  unfold f_Cod_state at heq
  refine lv_aload_n hx hb d_Cod_state_0 rfl (lv_at hl 0 rfl) ?_
  refine x_gI hc hR fl_Cod_25 heq d_Cod_state_1 (fun v1 heq => ?_)
  exact x_iret hc hR hLo ⟨by omega, by omega⟩ heq d_Cod_state_4
def rm_Cod_state : Room := { frames := 0, cells := 0, slots := 0, locals := 0 }
theorem rk_Cod_state : rm_Ok 0 0 0 0 rm_Cod_state := ⟨Nat.le_refl _, Nat.le_refl _, Nat.le_refl _, Nat.le_refl _⟩
def f_Cod_remember (t0 : Nat) (h0 : Hs_t) : Rs_t := (fd_I [6] 2 h0 t0).bind fun v1 => (pt_V [6] 3 h0 t0 (.int v1)).bind fun h1 => re_V h1
set_option maxRecDepth 100000 in
set_option maxHeartbeats 4000000 in
theorem c_Cod_remember {l : Launch} {s0 : State} {A0 : Array Value} {G : Gx_t} (hG : G_0 l s0 A0 G) (rm : Room) (hrm : rm_Ok 0 0 0 0 rm) (t0 : Nat) (h0 : Hs_t) (r : Outcome × Hs_t) (heq : f_Cod_remember t0 h0 = some r) : M_X G s0 l y_Cod_remember (.code y_Cod_remember b_Cod_remember 1 none) rm [.ref t0] h0 r := by
  refine M_X.of (by decide) hG (fun p e s m below meth c H hc hR => ?_)
  have hx := hc.x
  have hb := hc.b
  obtain ⟨hm1, hm2, hm3, hm4⟩ := id hrm
  have hLo : Lo_k s0 [] := fun _ hq => absurd hq List.not_mem_nil
  have hl := lv_entry ([.ref t0]) (n := 1) (Nat.le_of_ble_eq_true rfl)
  rw [lg_entry_eq]
  generalize (lg_sl ([.ref t0]) ++ List.replicate (1 - (lg_sl ([.ref t0])).length) Slot.unset).toArray = ls at hl ⊢
  have hl : lv_has ls 1 [(0, .ref t0)] := hl
  generalize hle : ([] : List Loc) = locs at hLo ⊢
  unfold f_Cod_remember at heq
  refine lv_aload_n hx hb d_Cod_remember_0 rfl (lv_at hl 0 rfl) ?_
  refine lv_aload_n hx hb d_Cod_remember_1 rfl (lv_at hl 0 rfl) ?_
  refine x_gI hc hR fl_Cod_25 heq d_Cod_remember_2 (fun v1 heq => ?_)
  refine x_pV hc hR hLo fl_Cod_28 (Or.inl rfl) rfl rfl heq d_Cod_remember_5 (fun h1 H locs hR hLo heq => ?_)
  exact x_vret hc hR hLo ⟨by omega, by omega⟩ heq d_Cod_remember_8
def rm_Cod_remember : Room := { frames := 0, cells := 0, slots := 0, locals := 0 }
theorem rk_Cod_remember : rm_Ok 0 0 0 0 rm_Cod_remember := ⟨Nat.le_refl _, Nat.le_refl _, Nat.le_refl _, Nat.le_refl _⟩
def f_Cod_recall (t0 : Nat) (h0 : Hs_t) : Rs_t := (fd_I [6] 3 h0 t0).bind fun v1 => (pt_V [6] 2 h0 t0 (.int v1)).bind fun h1 => re_V h1
set_option maxRecDepth 100000 in
set_option maxHeartbeats 4000000 in
theorem c_Cod_recall {l : Launch} {s0 : State} {A0 : Array Value} {G : Gx_t} (hG : G_0 l s0 A0 G) (rm : Room) (hrm : rm_Ok 0 0 0 0 rm) (t0 : Nat) (h0 : Hs_t) (r : Outcome × Hs_t) (heq : f_Cod_recall t0 h0 = some r) : M_X G s0 l y_Cod_recall (.code y_Cod_recall b_Cod_recall 1 none) rm [.ref t0] h0 r := by
  refine M_X.of (by decide) hG (fun p e s m below meth c H hc hR => ?_)
  have hx := hc.x
  have hb := hc.b
  obtain ⟨hm1, hm2, hm3, hm4⟩ := id hrm
  have hLo : Lo_k s0 [] := fun _ hq => absurd hq List.not_mem_nil
  have hl := lv_entry ([.ref t0]) (n := 1) (Nat.le_of_ble_eq_true rfl)
  rw [lg_entry_eq]
  generalize (lg_sl ([.ref t0]) ++ List.replicate (1 - (lg_sl ([.ref t0])).length) Slot.unset).toArray = ls at hl ⊢
  have hl : lv_has ls 1 [(0, .ref t0)] := hl
  generalize hle : ([] : List Loc) = locs at hLo ⊢
  unfold f_Cod_recall at heq
  refine lv_aload_n hx hb d_Cod_recall_0 rfl (lv_at hl 0 rfl) ?_
  refine lv_aload_n hx hb d_Cod_recall_1 rfl (lv_at hl 0 rfl) ?_
  refine x_gI hc hR fl_Cod_28 heq d_Cod_recall_2 (fun v1 heq => ?_)
  refine x_pV hc hR hLo fl_Cod_25 (Or.inl rfl) rfl rfl heq d_Cod_recall_5 (fun h1 H locs hR hLo heq => ?_)
  exact x_vret hc hR hLo ⟨by omega, by omega⟩ heq d_Cod_recall_8
def rm_Cod_recall : Room := { frames := 0, cells := 0, slots := 0, locals := 0 }
theorem rk_Cod_recall : rm_Ok 0 0 0 0 rm_Cod_recall := ⟨Nat.le_refl _, Nat.le_refl _, Nat.le_refl _, Nat.le_refl _⟩
def f_Lim_init (t0 : Nat) (x1 : Nat) (x2 : Int32) (h0 : Hs_t) : Rs_t := bd_V (f_Pas_init t0 x1 h0) (fun h1 => (pt_V [5] 1 h1 t0 (.int x2)).bind fun h2 => (pt_V [5] 2 h2 t0 (.int x2)).bind fun h3 => re_V h3)
set_option maxRecDepth 100000 in
set_option maxHeartbeats 4000000 in
theorem c_Lim_init {l : Launch} {s0 : State} {A0 : Array Value} {G : Gx_t} (hG : G_0 l s0 A0 G) (rm : Room) (hrm : rm_Ok 0 0 3 53 rm) (t0 : Nat) (x1 : Nat) (x2 : Int32) (h0 : Hs_t) (r : Outcome × Hs_t) (heq : f_Lim_init t0 x1 x2 h0 = some r) : M_X G s0 l y_Lim_init (.code y_Lim_init b_Lim_init 3 none) rm [.ref t0, .ref x1, .int x2] h0 r := by
  refine M_X.of (by decide) hG (fun p e s m below meth c H hc hR => ?_)
  have hx := hc.x
  have hb := hc.b
  obtain ⟨hm1, hm2, hm3, hm4⟩ := id hrm
  have hLo : Lo_k s0 [] := fun _ hq => absurd hq List.not_mem_nil
  have hl := lv_entry ([.ref t0, .ref x1, .int x2]) (n := 3) (Nat.le_of_ble_eq_true rfl)
  rw [lg_entry_eq]
  generalize (lg_sl ([.ref t0, .ref x1, .int x2]) ++ List.replicate (3 - (lg_sl ([.ref t0, .ref x1, .int x2])).length) Slot.unset).toArray = ls at hl ⊢
  have hl : lv_has ls 3 [(0, .ref t0), (1, .ref x1), (2, .int x2)] := hl
  generalize hle : ([] : List Loc) = locs at hLo ⊢
  unfold f_Lim_init at heq
  refine lv_aload_n hx hb d_Lim_init_0 rfl (lv_at hl 0 rfl) ?_
  refine lv_aload_n hx hb d_Lim_init_1 rfl (lv_at hl 1 rfl) ?_
  refine x_bV (mc := 0) (ms := 0) (st := []) hc hLo heq ⟨by omega, by omega⟩ (fun r9 h9 => x_runI hc (c_Pas_init hc.g rm_Pas_init rk_Pas_init _ _ _ _ h9) md_Pas_init hR wd_363 wd_364 rfl ⟨_, rfl⟩ hl.1 ml_Pas_init rfl (Nat.le_of_ble_eq_true rfl) d_Lim_init_2 ⟨by show 2 + 1 ≤ _; omega, by show 8 + (2 + 11) + (32) ≤ _; omega⟩ ⟨by show 0 + 0 ≤ _; omega, by show 0 + 0 ≤ _; omega⟩) (fun h1 H locs hR hLo heq => ?_)
  refine lv_aload_n hx hb d_Lim_init_5 rfl (lv_at hl 0 rfl) ?_
  refine lv_iload_n hx hb d_Lim_init_6 rfl (lv_at hl 2 rfl) ?_
  refine x_pV hc hR hLo fl_Lim_9 (Or.inl rfl) rfl rfl heq d_Lim_init_7 (fun h2 H locs hR hLo heq => ?_)
  refine lv_aload_n hx hb d_Lim_init_10 rfl (lv_at hl 0 rfl) ?_
  refine lv_iload_n hx hb d_Lim_init_11 rfl (lv_at hl 2 rfl) ?_
  refine x_pV hc hR hLo fl_Lim_15 (Or.inl rfl) rfl rfl heq d_Lim_init_12 (fun h3 H locs hR hLo heq => ?_)
  exact x_vret hc hR hLo ⟨by omega, by omega⟩ heq d_Lim_init_15
def rm_Lim_init : Room := { frames := 3, cells := 0, slots := 0, locals := 53 }
theorem rk_Lim_init : rm_Ok 0 0 3 53 rm_Lim_init := ⟨Nat.le_refl _, Nat.le_refl _, Nat.le_refl _, Nat.le_refl _⟩
def f_Lim_answer_b45 (w_answer : Nat → Int32 → Nat → Int32 → Hs_t → Rs_t) (x4 : Int32) (h0 : Hs_t) : Rs_t := re_I x4 h0
def f_Lim_answer (w_answer : Nat → Int32 → Nat → Int32 → Hs_t → Rs_t) (t0 : Nat) (x1 : Int32) (x2 : Nat) (x3 : Int32) (h0 : Hs_t) : Rs_t := (fd_I [5] 1 h0 t0).bind fun v1 => if v1 = 0 then (re_I 0 h0) else ((fd_A [5] 0 h0 t0).bind fun v2 => (fd_I [5] 1 h0 t0).bind fun v3 => bd_I (w_answer v2 (if v3 < x1 then v3 else x1) x2 x3 h0) (fun v4 h1 => if v4 = (-1) then (f_Lim_answer_b45 w_answer v4 h1) else ((fd_I [5] 1 h1 t0).bind fun v5 => (pt_V [5] 1 h1 t0 (.int (v5 - v4))).bind fun h2 => f_Lim_answer_b45 w_answer v4 h2)))
set_option maxRecDepth 100000 in
set_option maxHeartbeats 4000000 in
theorem k_Lim_answer_b45 {p : Program} {l : Launch} {e : Env} {s : State} {m : MethodId} {args : Array Value} {below : List Frame} {meth : Method} {c : Code} {s0 : State} {A0 : Array Value} {G : Gx_t} {r : Outcome × Hs_t} {rm : Room} (FW LW : Nat) (w_answer : Nat → Int32 → Nat → Int32 → Hs_t → Rs_t) (hc : Cx_t p s m meth c s0 A0 l G y_Lim_answer b_Lim_answer 5 (some .int) []) (hrm : rm_Ok 0 0 (FW + 1) (LW + 29) rm) (hw_answer : ∀ (a : Nat) (x1 : Int32) (x2 : Nat) (x3 : Int32) (h : Hs_t) (r0 : Outcome × Hs_t), w_answer a x1 x2 x3 h = some r0 → V_X G s0 l xn_answer { frames := FW, cells := 0, slots := 0, locals := LW } a [.int x1, .ref x2, .int x3] h r0) : ∀ (x4 : Int32) (h0 : Hs_t) (H : Heap) (locs : List Loc) (ls : Array Slot), Rp_h G s0.heap h0 H → Lo_k s0 locs → lv_has ls 5 [(4, .int x4)] → f_Lim_answer_b45 w_answer x4 h0 = some r → W p l e rm s m args below meth c H locs 0 0 (xq_MQ G s0 below r s rm.cells rm.slots) (F0 m 45 ls []) := by
  have hx := hc.x
  have hb := hc.b
  obtain ⟨hm1, hm2, hm3, hm4⟩ := id hrm
  intro x4 h0 H locs ls hR hLo hl heq
  unfold f_Lim_answer_b45 at heq
  refine lv_iload hx hb d_Lim_answer_45 (lv_at hl 0 rfl) ?_
  exact x_iret hc hR hLo ⟨by omega, by omega⟩ heq d_Lim_answer_47
set_option maxRecDepth 100000 in
set_option maxHeartbeats 4000000 in
theorem c_Lim_answer {l : Launch} {s0 : State} {A0 : Array Value} {G : Gx_t} (hG : G_0 l s0 A0 G) (FW LW : Nat) (w_answer : Nat → Int32 → Nat → Int32 → Hs_t → Rs_t) (rm : Room) (hrm : rm_Ok 0 0 (FW + 1) (LW + 29) rm) (hw_answer : ∀ (a : Nat) (x1 : Int32) (x2 : Nat) (x3 : Int32) (h : Hs_t) (r0 : Outcome × Hs_t), w_answer a x1 x2 x3 h = some r0 → V_X G s0 l xn_answer { frames := FW, cells := 0, slots := 0, locals := LW } a [.int x1, .ref x2, .int x3] h r0) (t0 : Nat) (x1 : Int32) (x2 : Nat) (x3 : Int32) (h0 : Hs_t) (r : Outcome × Hs_t) (heq : f_Lim_answer w_answer t0 x1 x2 x3 h0 = some r) : M_X G s0 l y_Lim_answer (.code y_Lim_answer b_Lim_answer 5 (some .int)) rm [.ref t0, .int x1, .ref x2, .int x3] h0 r := by
  refine M_X.of (by decide) hG (fun p e s m below meth c H hc hR => ?_)
  have hx := hc.x
  have hb := hc.b
  obtain ⟨hm1, hm2, hm3, hm4⟩ := id hrm
  have hLo : Lo_k s0 [] := fun _ hq => absurd hq List.not_mem_nil
  have hl := lv_entry ([.ref t0, .int x1, .ref x2, .int x3]) (n := 5) (Nat.le_of_ble_eq_true rfl)
  rw [lg_entry_eq]
  generalize (lg_sl ([.ref t0, .int x1, .ref x2, .int x3]) ++ List.replicate (5 - (lg_sl ([.ref t0, .int x1, .ref x2, .int x3])).length) Slot.unset).toArray = ls at hl ⊢
  have hl : lv_has ls 5 [(0, .ref t0), (1, .int x1), (2, .ref x2), (3, .int x3)] := hl
  generalize hle : ([] : List Loc) = locs at hLo ⊢
  unfold f_Lim_answer at heq
  refine lv_aload_n hx hb d_Lim_answer_0 rfl (lv_at hl 0 rfl) ?_
  refine x_gI hc hR fl_Lim_9 heq d_Lim_answer_1 (fun v1 heq => ?_)
  refine lv_if_ne (tgt := 9) hx hb d_Lim_answer_4 rfl (fun hq => ?_) (fun hq => ?_)
  · rw [if_neg hq] at heq
    refine lv_aload_n hx hb d_Lim_answer_9 rfl (lv_at hl 0 rfl) ?_
    refine x_gA hc hR fl_Lim_18 heq d_Lim_answer_10 (fun v2 heq => ?_)
    refine lv_iload_n hx hb d_Lim_answer_13 rfl (lv_at hl 1 rfl) ?_
    refine lv_aload_n hx hb d_Lim_answer_14 rfl (lv_at hl 0 rfl) ?_
    refine x_gI hc hR fl_Lim_9 heq d_Lim_answer_15 (fun v3 heq => ?_)
    refine x_min hc hl.1 wd_146 wd_147 wd_17 wd_148 (by omega) (by show 1 + 13 ≤ _; omega) ⟨by omega, by omega⟩ d_Lim_answer_18 ?_
    refine lv_aload_n hx hb d_Lim_answer_21 rfl (lv_at hl 2 rfl) ?_
    refine lv_iload_n hx hb d_Lim_answer_22 rfl (lv_at hl 3 rfl) ?_
    refine x_bI (mc := 0) (ms := 0) (st := []) hc hLo heq ⟨by omega, by omega⟩ (fun r9 h9 => x_runW hc (hw_answer _ _ _ _ _ _ h9) hR wd_455 wd_445 (Or.inl wd_444) (by decide) hl.1 xl_answer rfl (Nat.le_of_ble_eq_true rfl) d_Lim_answer_23 ⟨by show FW + 0 + 1 ≤ _; omega, by show 8 + (10 + 11) + (LW + 0) ≤ _; omega⟩ ⟨by show 0 + 0 ≤ _; omega, by show 0 + 0 ≤ _; omega⟩) (fun v4 h1 H locs hR hLo heq => ?_)
    refine lv_istore (lv' := [(4, .int v4), (0, .ref t0), (1, .int x1), (2, .ref x2), (3, .int x3)]) hx hb d_Lim_answer_26 hl (by decide) rfl (fun ls hl => ?_)
    refine lv_iload hx hb d_Lim_answer_28 (lv_at hl 0 rfl) ?_
    refine lv_iconst (v := (-1)) hx hb d_Lim_answer_30 (by decide) ?_
    refine lv_icmp_eq (tgt := 45) hx hb d_Lim_answer_31 rfl (fun hq => ?_) (fun hq => ?_)
    · rw [if_pos hq] at heq
      refine W.widen (k := 0) (n := 0) (by omega) (by omega) ?_
      exact k_Lim_answer_b45 FW LW w_answer hc hrm hw_answer v4 h1 H locs ls hR hLo (lv_sub hl [0] rfl) heq
    · rw [if_neg hq] at heq
      refine lv_aload_n hx hb d_Lim_answer_34 rfl (lv_at hl 1 rfl) ?_
      refine lv_dup hx hb d_Lim_answer_35 rfl ?_
      refine x_gI hc hR fl_Lim_9 heq d_Lim_answer_36 (fun v5 heq => ?_)
      refine lv_iload hx hb d_Lim_answer_39 (lv_at hl 0 rfl) ?_
      refine lv_isub hx hb d_Lim_answer_41 ?_
      refine x_pV hc hR hLo fl_Lim_9 (Or.inl rfl) rfl rfl heq d_Lim_answer_42 (fun h2 H locs hR hLo heq => ?_)
      refine W.widen (k := 0) (n := 0) (by omega) (by omega) ?_
      exact k_Lim_answer_b45 FW LW w_answer hc hrm hw_answer v4 h2 H locs ls hR hLo (lv_sub hl [0] rfl) heq
  · rw [if_pos hq] at heq
    refine lv_iconst (v := 0) hx hb d_Lim_answer_7 (by decide) ?_
    exact x_iret hc hR hLo ⟨by omega, by omega⟩ heq d_Lim_answer_8
def f_Lim_ready (w_ready : Nat → Hs_t → Rs_t) (t0 : Nat) (h0 : Hs_t) : Rs_t := (fd_I [5] 1 h0 t0).bind fun v1 => (fd_A [5] 0 h0 t0).bind fun v2 => bd_I (w_ready v2 h0) (fun v3 h1 => re_I (if v3 < v1 then v3 else v1) h1)
set_option maxRecDepth 100000 in
set_option maxHeartbeats 4000000 in
theorem c_Lim_ready {l : Launch} {s0 : State} {A0 : Array Value} {G : Gx_t} (hG : G_0 l s0 A0 G) (FW LW : Nat) (w_ready : Nat → Hs_t → Rs_t) (rm : Room) (hrm : rm_Ok 0 0 (FW + 1) (LW + 29) rm) (hw_ready : ∀ (a : Nat) (h : Hs_t) (r0 : Outcome × Hs_t), w_ready a h = some r0 → V_X G s0 l xn_ready { frames := FW, cells := 0, slots := 0, locals := LW } a [] h r0) (t0 : Nat) (h0 : Hs_t) (r : Outcome × Hs_t) (heq : f_Lim_ready w_ready t0 h0 = some r) : M_X G s0 l y_Lim_ready (.code y_Lim_ready b_Lim_ready 1 (some .int)) rm [.ref t0] h0 r := by
  refine M_X.of (by decide) hG (fun p e s m below meth c H hc hR => ?_)
  have hx := hc.x
  have hb := hc.b
  obtain ⟨hm1, hm2, hm3, hm4⟩ := id hrm
  have hLo : Lo_k s0 [] := fun _ hq => absurd hq List.not_mem_nil
  have hl := lv_entry ([.ref t0]) (n := 1) (Nat.le_of_ble_eq_true rfl)
  rw [lg_entry_eq]
  generalize (lg_sl ([.ref t0]) ++ List.replicate (1 - (lg_sl ([.ref t0])).length) Slot.unset).toArray = ls at hl ⊢
  have hl : lv_has ls 1 [(0, .ref t0)] := hl
  generalize hle : ([] : List Loc) = locs at hLo ⊢
  unfold f_Lim_ready at heq
  refine lv_aload_n hx hb d_Lim_ready_0 rfl (lv_at hl 0 rfl) ?_
  refine x_gI hc hR fl_Lim_9 heq d_Lim_ready_1 (fun v1 heq => ?_)
  refine lv_aload_n hx hb d_Lim_ready_4 rfl (lv_at hl 0 rfl) ?_
  refine x_gA hc hR fl_Lim_18 heq d_Lim_ready_5 (fun v2 heq => ?_)
  refine x_bI (mc := 0) (ms := 0) (st := [.int v1]) hc hLo heq ⟨by omega, by omega⟩ (fun r9 h9 => x_runW hc (hw_ready _ _ _ h9) hR wd_140 wd_130 (Or.inl wd_129) (by decide) hl.1 xl_ready rfl (Nat.le_of_ble_eq_true rfl) d_Lim_ready_8 ⟨by show FW + 0 + 1 ≤ _; omega, by show 8 + (10 + 11) + (LW + 0) ≤ _; omega⟩ ⟨by show 0 + 0 ≤ _; omega, by show 0 + 0 ≤ _; omega⟩) (fun v3 h1 H locs hR hLo heq => ?_)
  refine x_min hc hl.1 wd_146 wd_147 wd_17 wd_148 (by omega) (by show 0 + 13 ≤ _; omega) ⟨by omega, by omega⟩ d_Lim_ready_11 ?_
  exact x_iret hc hR hLo ⟨by omega, by omega⟩ heq d_Lim_ready_14
def f_Lim_state (t0 : Nat) (h0 : Hs_t) : Rs_t := (fd_I [5] 1 h0 t0).bind fun v1 => re_I v1 h0
set_option maxRecDepth 100000 in
set_option maxHeartbeats 4000000 in
theorem c_Lim_state {l : Launch} {s0 : State} {A0 : Array Value} {G : Gx_t} (hG : G_0 l s0 A0 G) (rm : Room) (hrm : rm_Ok 0 0 0 0 rm) (t0 : Nat) (h0 : Hs_t) (r : Outcome × Hs_t) (heq : f_Lim_state t0 h0 = some r) : M_X G s0 l y_Lim_state (.code y_Lim_state b_Lim_state 1 (some .int)) rm [.ref t0] h0 r := by
  refine M_X.of (by decide) hG (fun p e s m below meth c H hc hR => ?_)
  have hx := hc.x
  have hb := hc.b
  obtain ⟨hm1, hm2, hm3, hm4⟩ := id hrm
  have hLo : Lo_k s0 [] := fun _ hq => absurd hq List.not_mem_nil
  have hl := lv_entry ([.ref t0]) (n := 1) (Nat.le_of_ble_eq_true rfl)
  rw [lg_entry_eq]
  generalize (lg_sl ([.ref t0]) ++ List.replicate (1 - (lg_sl ([.ref t0])).length) Slot.unset).toArray = ls at hl ⊢
  have hl : lv_has ls 1 [(0, .ref t0)] := hl
  generalize hle : ([] : List Loc) = locs at hLo ⊢
  unfold f_Lim_state at heq
  refine lv_aload_n hx hb d_Lim_state_0 rfl (lv_at hl 0 rfl) ?_
  refine x_gI hc hR fl_Lim_9 heq d_Lim_state_1 (fun v1 heq => ?_)
  exact x_iret hc hR hLo ⟨by omega, by omega⟩ heq d_Lim_state_4
def rm_Lim_state : Room := { frames := 0, cells := 0, slots := 0, locals := 0 }
theorem rk_Lim_state : rm_Ok 0 0 0 0 rm_Lim_state := ⟨Nat.le_refl _, Nat.le_refl _, Nat.le_refl _, Nat.le_refl _⟩
def f_Lim_remember (t0 : Nat) (h0 : Hs_t) : Rs_t := (fd_I [5] 1 h0 t0).bind fun v1 => (pt_V [5] 2 h0 t0 (.int v1)).bind fun h1 => re_V h1
set_option maxRecDepth 100000 in
set_option maxHeartbeats 4000000 in
theorem c_Lim_remember {l : Launch} {s0 : State} {A0 : Array Value} {G : Gx_t} (hG : G_0 l s0 A0 G) (rm : Room) (hrm : rm_Ok 0 0 0 0 rm) (t0 : Nat) (h0 : Hs_t) (r : Outcome × Hs_t) (heq : f_Lim_remember t0 h0 = some r) : M_X G s0 l y_Lim_remember (.code y_Lim_remember b_Lim_remember 1 none) rm [.ref t0] h0 r := by
  refine M_X.of (by decide) hG (fun p e s m below meth c H hc hR => ?_)
  have hx := hc.x
  have hb := hc.b
  obtain ⟨hm1, hm2, hm3, hm4⟩ := id hrm
  have hLo : Lo_k s0 [] := fun _ hq => absurd hq List.not_mem_nil
  have hl := lv_entry ([.ref t0]) (n := 1) (Nat.le_of_ble_eq_true rfl)
  rw [lg_entry_eq]
  generalize (lg_sl ([.ref t0]) ++ List.replicate (1 - (lg_sl ([.ref t0])).length) Slot.unset).toArray = ls at hl ⊢
  have hl : lv_has ls 1 [(0, .ref t0)] := hl
  generalize hle : ([] : List Loc) = locs at hLo ⊢
  unfold f_Lim_remember at heq
  refine lv_aload_n hx hb d_Lim_remember_0 rfl (lv_at hl 0 rfl) ?_
  refine lv_aload_n hx hb d_Lim_remember_1 rfl (lv_at hl 0 rfl) ?_
  refine x_gI hc hR fl_Lim_9 heq d_Lim_remember_2 (fun v1 heq => ?_)
  refine x_pV hc hR hLo fl_Lim_15 (Or.inl rfl) rfl rfl heq d_Lim_remember_5 (fun h1 H locs hR hLo heq => ?_)
  exact x_vret hc hR hLo ⟨by omega, by omega⟩ heq d_Lim_remember_8
def rm_Lim_remember : Room := { frames := 0, cells := 0, slots := 0, locals := 0 }
theorem rk_Lim_remember : rm_Ok 0 0 0 0 rm_Lim_remember := ⟨Nat.le_refl _, Nat.le_refl _, Nat.le_refl _, Nat.le_refl _⟩
def f_Lim_recall (t0 : Nat) (h0 : Hs_t) : Rs_t := (fd_I [5] 2 h0 t0).bind fun v1 => (pt_V [5] 1 h0 t0 (.int v1)).bind fun h1 => re_V h1
set_option maxRecDepth 100000 in
set_option maxHeartbeats 4000000 in
theorem c_Lim_recall {l : Launch} {s0 : State} {A0 : Array Value} {G : Gx_t} (hG : G_0 l s0 A0 G) (rm : Room) (hrm : rm_Ok 0 0 0 0 rm) (t0 : Nat) (h0 : Hs_t) (r : Outcome × Hs_t) (heq : f_Lim_recall t0 h0 = some r) : M_X G s0 l y_Lim_recall (.code y_Lim_recall b_Lim_recall 1 none) rm [.ref t0] h0 r := by
  refine M_X.of (by decide) hG (fun p e s m below meth c H hc hR => ?_)
  have hx := hc.x
  have hb := hc.b
  obtain ⟨hm1, hm2, hm3, hm4⟩ := id hrm
  have hLo : Lo_k s0 [] := fun _ hq => absurd hq List.not_mem_nil
  have hl := lv_entry ([.ref t0]) (n := 1) (Nat.le_of_ble_eq_true rfl)
  rw [lg_entry_eq]
  generalize (lg_sl ([.ref t0]) ++ List.replicate (1 - (lg_sl ([.ref t0])).length) Slot.unset).toArray = ls at hl ⊢
  have hl : lv_has ls 1 [(0, .ref t0)] := hl
  generalize hle : ([] : List Loc) = locs at hLo ⊢
  unfold f_Lim_recall at heq
  refine lv_aload_n hx hb d_Lim_recall_0 rfl (lv_at hl 0 rfl) ?_
  refine lv_aload_n hx hb d_Lim_recall_1 rfl (lv_at hl 0 rfl) ?_
  refine x_gI hc hR fl_Lim_15 heq d_Lim_recall_2 (fun v1 heq => ?_)
  refine x_pV hc hR hLo fl_Lim_9 (Or.inl rfl) rfl rfl heq d_Lim_recall_5 (fun h1 H locs hR hLo heq => ?_)
  exact x_vret hc hR hLo ⟨by omega, by omega⟩ heq d_Lim_recall_8
def rm_Lim_recall : Room := { frames := 0, cells := 0, slots := 0, locals := 0 }
theorem rk_Lim_recall : rm_Ok 0 0 0 0 rm_Lim_recall := ⟨Nat.le_refl _, Nat.le_refl _, Nat.le_refl _, Nat.le_refl _⟩
def f_Lin_init (t0 : Nat) (x1 : Nat) (h0 : Hs_t) : Rs_t := bd_V (f_Pas_init t0 x1 h0) (fun h1 => re_V h1)
set_option maxRecDepth 100000 in
set_option maxHeartbeats 4000000 in
theorem c_Lin_init {l : Launch} {s0 : State} {A0 : Array Value} {G : Gx_t} (hG : G_0 l s0 A0 G) (rm : Room) (hrm : rm_Ok 0 0 3 53 rm) (t0 : Nat) (x1 : Nat) (h0 : Hs_t) (r : Outcome × Hs_t) (heq : f_Lin_init t0 x1 h0 = some r) : M_X G s0 l y_Lin_init (.code y_Lin_init b_Lin_init 2 none) rm [.ref t0, .ref x1] h0 r := by
  refine M_X.of (by decide) hG (fun p e s m below meth c H hc hR => ?_)
  have hx := hc.x
  have hb := hc.b
  obtain ⟨hm1, hm2, hm3, hm4⟩ := id hrm
  have hLo : Lo_k s0 [] := fun _ hq => absurd hq List.not_mem_nil
  have hl := lv_entry ([.ref t0, .ref x1]) (n := 2) (Nat.le_of_ble_eq_true rfl)
  rw [lg_entry_eq]
  generalize (lg_sl ([.ref t0, .ref x1]) ++ List.replicate (2 - (lg_sl ([.ref t0, .ref x1])).length) Slot.unset).toArray = ls at hl ⊢
  have hl : lv_has ls 2 [(0, .ref t0), (1, .ref x1)] := hl
  generalize hle : ([] : List Loc) = locs at hLo ⊢
  unfold f_Lin_init at heq
  refine lv_aload_n hx hb d_Lin_init_0 rfl (lv_at hl 0 rfl) ?_
  refine lv_aload_n hx hb d_Lin_init_1 rfl (lv_at hl 1 rfl) ?_
  refine x_bV (mc := 0) (ms := 0) (st := []) hc hLo heq ⟨by omega, by omega⟩ (fun r9 h9 => x_runI hc (c_Pas_init hc.g rm_Pas_init rk_Pas_init _ _ _ _ h9) md_Pas_init hR wd_405 wd_364 rfl ⟨_, rfl⟩ hl.1 ml_Pas_init rfl (Nat.le_of_ble_eq_true rfl) d_Lin_init_2 ⟨by show 2 + 1 ≤ _; omega, by show 8 + (2 + 11) + (32) ≤ _; omega⟩ ⟨by show 0 + 0 ≤ _; omega, by show 0 + 0 ≤ _; omega⟩) (fun h1 H locs hR hLo heq => ?_)
  exact x_vret hc hR hLo ⟨by omega, by omega⟩ heq d_Lin_init_5
def rm_Lin_init : Room := { frames := 3, cells := 0, slots := 0, locals := 53 }
theorem rk_Lin_init : rm_Ok 0 0 3 53 rm_Lin_init := ⟨Nat.le_refl _, Nat.le_refl _, Nat.le_refl _, Nat.le_refl _⟩
def f_Lin_countLineEnd_b41 (sv0 : Int32) (sv1 : Nat) (h0 : Hs_t) : Rs_t := (pt_Z [7] 3 h0 sv1 sv0).bind fun h1 => re_V h1
def f_Lin_countLineEnd_b29 (t0 : Nat) (x1 : Int32) (h0 : Hs_t) : Rs_t := if x1 = 13 then (f_Lin_countLineEnd_b41 1 t0 h0) else (f_Lin_countLineEnd_b41 0 t0 h0)
def f_Lin_countLineEnd_b19 (t0 : Nat) (x1 : Int32) (h0 : Hs_t) : Rs_t := (fd_I [7] 1 h0 t0).bind fun v2 => (pt_V [7] 1 h0 t0 (.int (v2 + 1))).bind fun h2 => f_Lin_countLineEnd_b29 t0 x1 h2
def f_Lin_countLineEnd (t0 : Nat) (x1 : Int32) (h0 : Hs_t) : Rs_t := if x1 = 13 then (f_Lin_countLineEnd_b19 t0 x1 h0) else (if x1 = 10 then ((fd_I [7] 3 h0 t0).bind fun v1 => if v1 = 0 then (f_Lin_countLineEnd_b19 t0 x1 h0) else (f_Lin_countLineEnd_b29 t0 x1 h0)) else (f_Lin_countLineEnd_b29 t0 x1 h0))
set_option maxRecDepth 100000 in
set_option maxHeartbeats 4000000 in
theorem k_Lin_countLineEnd_b41 {p : Program} {l : Launch} {e : Env} {s : State} {m : MethodId} {args : Array Value} {below : List Frame} {meth : Method} {c : Code} {s0 : State} {A0 : Array Value} {G : Gx_t} {r : Outcome × Hs_t} {rm : Room} (hc : Cx_t p s m meth c s0 A0 l G y_Lin_countLineEnd b_Lin_countLineEnd 2 none []) (hrm : rm_Ok 0 0 0 0 rm) : ∀ (sv0 : Int32) (sv1 : Nat) (h0 : Hs_t) (H : Heap) (locs : List Loc) (ls : Array Slot), Rp_h G s0.heap h0 H → Lo_k s0 locs → lv_has ls 2 [] → f_Lin_countLineEnd_b41 sv0 sv1 h0 = some r → W p l e rm s m args below meth c H locs 0 0 (xq_MQ G s0 below r s rm.cells rm.slots) (F0 m 41 ls [.int sv0, .ref sv1]) := by
  have hx := hc.x
  have hb := hc.b
  obtain ⟨hm1, hm2, hm3, hm4⟩ := id hrm
  intro sv0 sv1 h0 H locs ls hR hLo hl heq
  unfold f_Lin_countLineEnd_b41 at heq
  refine x_pZ hc hR hLo fl_Lin_25 (Or.inl rfl) heq d_Lin_countLineEnd_41 (fun h1 H locs hR hLo heq => ?_)
  exact x_vret hc hR hLo ⟨by omega, by omega⟩ heq d_Lin_countLineEnd_44
set_option maxRecDepth 100000 in
set_option maxHeartbeats 4000000 in
theorem k_Lin_countLineEnd_b29 {p : Program} {l : Launch} {e : Env} {s : State} {m : MethodId} {args : Array Value} {below : List Frame} {meth : Method} {c : Code} {s0 : State} {A0 : Array Value} {G : Gx_t} {r : Outcome × Hs_t} {rm : Room} (hc : Cx_t p s m meth c s0 A0 l G y_Lin_countLineEnd b_Lin_countLineEnd 2 none []) (hrm : rm_Ok 0 0 0 0 rm) : ∀ (t0 : Nat) (x1 : Int32) (h0 : Hs_t) (H : Heap) (locs : List Loc) (ls : Array Slot), Rp_h G s0.heap h0 H → Lo_k s0 locs → lv_has ls 2 [(0, .ref t0), (1, .int x1)] → f_Lin_countLineEnd_b29 t0 x1 h0 = some r → W p l e rm s m args below meth c H locs 0 0 (xq_MQ G s0 below r s rm.cells rm.slots) (F0 m 29 ls []) := by
  have hx := hc.x
  have hb := hc.b
  obtain ⟨hm1, hm2, hm3, hm4⟩ := id hrm
  intro t0 x1 h0 H locs ls hR hLo hl heq
  unfold f_Lin_countLineEnd_b29 at heq
  refine lv_aload_n hx hb d_Lin_countLineEnd_29 rfl (lv_at hl 0 rfl) ?_
  refine lv_iload_n hx hb d_Lin_countLineEnd_30 rfl (lv_at hl 1 rfl) ?_
  refine lv_bipush (v := 13) hx hb d_Lin_countLineEnd_31 (by decide) ?_
  refine lv_icmp_ne (tgt := 40) hx hb d_Lin_countLineEnd_33 rfl (fun hq => ?_) (fun hq => ?_)
  · rw [if_neg hq] at heq
    refine lv_iconst (v := 0) hx hb d_Lin_countLineEnd_40 (by decide) ?_
    refine W.widen (k := 0) (n := 0) (by omega) (by omega) ?_
    exact k_Lin_countLineEnd_b41 hc hrm 0 t0 h0 H locs ls hR hLo (lv_sub hl [] rfl) heq
  · rw [if_pos hq] at heq
    refine lv_iconst (v := 1) hx hb d_Lin_countLineEnd_36 (by decide) ?_
    refine lv_goto (tgt := 41) hx hb d_Lin_countLineEnd_37 rfl ?_
    refine W.widen (k := 0) (n := 0) (by omega) (by omega) ?_
    exact k_Lin_countLineEnd_b41 hc hrm 1 t0 h0 H locs ls hR hLo (lv_sub hl [] rfl) heq
set_option maxRecDepth 100000 in
set_option maxHeartbeats 4000000 in
theorem k_Lin_countLineEnd_b19 {p : Program} {l : Launch} {e : Env} {s : State} {m : MethodId} {args : Array Value} {below : List Frame} {meth : Method} {c : Code} {s0 : State} {A0 : Array Value} {G : Gx_t} {r : Outcome × Hs_t} {rm : Room} (hc : Cx_t p s m meth c s0 A0 l G y_Lin_countLineEnd b_Lin_countLineEnd 2 none []) (hrm : rm_Ok 0 0 0 0 rm) : ∀ (t0 : Nat) (x1 : Int32) (h0 : Hs_t) (H : Heap) (locs : List Loc) (ls : Array Slot), Rp_h G s0.heap h0 H → Lo_k s0 locs → lv_has ls 2 [(0, .ref t0), (1, .int x1)] → f_Lin_countLineEnd_b19 t0 x1 h0 = some r → W p l e rm s m args below meth c H locs 0 0 (xq_MQ G s0 below r s rm.cells rm.slots) (F0 m 19 ls []) := by
  have hx := hc.x
  have hb := hc.b
  obtain ⟨hm1, hm2, hm3, hm4⟩ := id hrm
  intro t0 x1 h0 H locs ls hR hLo hl heq
  unfold f_Lin_countLineEnd_b19 at heq
  refine lv_aload_n hx hb d_Lin_countLineEnd_19 rfl (lv_at hl 0 rfl) ?_
  refine lv_dup hx hb d_Lin_countLineEnd_20 rfl ?_
  refine x_gI hc hR fl_Lin_29 heq d_Lin_countLineEnd_21 (fun v2 heq => ?_)
  refine lv_iconst (v := 1) hx hb d_Lin_countLineEnd_24 (by decide) ?_
  refine lv_iadd hx hb d_Lin_countLineEnd_25 ?_
  refine x_pV hc hR hLo fl_Lin_29 (Or.inl rfl) rfl rfl heq d_Lin_countLineEnd_26 (fun h2 H locs hR hLo heq => ?_)
  refine W.widen (k := 0) (n := 0) (by omega) (by omega) ?_
  exact k_Lin_countLineEnd_b29 hc hrm t0 x1 h2 H locs ls hR hLo (lv_sub hl [0, 1] rfl) heq
set_option maxRecDepth 100000 in
set_option maxHeartbeats 4000000 in
theorem c_Lin_countLineEnd {l : Launch} {s0 : State} {A0 : Array Value} {G : Gx_t} (hG : G_0 l s0 A0 G) (rm : Room) (hrm : rm_Ok 0 0 0 0 rm) (t0 : Nat) (x1 : Int32) (h0 : Hs_t) (r : Outcome × Hs_t) (heq : f_Lin_countLineEnd t0 x1 h0 = some r) : M_X G s0 l y_Lin_countLineEnd (.code y_Lin_countLineEnd b_Lin_countLineEnd 2 none) rm [.ref t0, .int x1] h0 r := by
  refine M_X.of (by decide) hG (fun p e s m below meth c H hc hR => ?_)
  have hx := hc.x
  have hb := hc.b
  obtain ⟨hm1, hm2, hm3, hm4⟩ := id hrm
  have hLo : Lo_k s0 [] := fun _ hq => absurd hq List.not_mem_nil
  have hl := lv_entry ([.ref t0, .int x1]) (n := 2) (Nat.le_of_ble_eq_true rfl)
  rw [lg_entry_eq]
  generalize (lg_sl ([.ref t0, .int x1]) ++ List.replicate (2 - (lg_sl ([.ref t0, .int x1])).length) Slot.unset).toArray = ls at hl ⊢
  have hl : lv_has ls 2 [(0, .ref t0), (1, .int x1)] := hl
  generalize hle : ([] : List Loc) = locs at hLo ⊢
  unfold f_Lin_countLineEnd at heq
  refine lv_iload_n hx hb d_Lin_countLineEnd_0 rfl (lv_at hl 1 rfl) ?_
  refine lv_bipush (v := 13) hx hb d_Lin_countLineEnd_1 (by decide) ?_
  refine lv_icmp_eq (tgt := 19) hx hb d_Lin_countLineEnd_3 rfl (fun hq => ?_) (fun hq => ?_)
  · rw [if_pos hq] at heq
    refine W.widen (k := 0) (n := 0) (by omega) (by omega) ?_
    exact k_Lin_countLineEnd_b19 hc hrm t0 x1 h0 H locs ls hR hLo (lv_sub hl [0, 1] rfl) heq
  · rw [if_neg hq] at heq
    refine lv_iload_n hx hb d_Lin_countLineEnd_6 rfl (lv_at hl 1 rfl) ?_
    refine lv_bipush (v := 10) hx hb d_Lin_countLineEnd_7 (by decide) ?_
    refine lv_icmp_ne (tgt := 29) hx hb d_Lin_countLineEnd_9 rfl (fun hq => ?_) (fun hq => ?_)
    · rw [if_neg hq] at heq
      refine W.widen (k := 0) (n := 0) (by omega) (by omega) ?_
      exact k_Lin_countLineEnd_b29 hc hrm t0 x1 h0 H locs ls hR hLo (lv_sub hl [0, 1] rfl) heq
    · rw [if_pos hq] at heq
      refine lv_aload_n hx hb d_Lin_countLineEnd_12 rfl (lv_at hl 0 rfl) ?_
      refine x_gI hc hR fl_Lin_25 heq d_Lin_countLineEnd_13 (fun v1 heq => ?_)
      refine lv_if_ne (tgt := 29) hx hb d_Lin_countLineEnd_16 rfl (fun hq => ?_) (fun hq => ?_)
      · rw [if_neg hq] at heq
        refine W.widen (k := 0) (n := 0) (by omega) (by omega) ?_
        exact k_Lin_countLineEnd_b29 hc hrm t0 x1 h0 H locs ls hR hLo (lv_sub hl [0, 1] rfl) heq
      · rw [if_pos hq] at heq
        refine W.widen (k := 0) (n := 0) (by omega) (by omega) ?_
        exact k_Lin_countLineEnd_b19 hc hrm t0 x1 h0 H locs ls hR hLo (lv_sub hl [0, 1] rfl) heq
def rm_Lin_countLineEnd : Room := { frames := 0, cells := 0, slots := 0, locals := 0 }
theorem rk_Lin_countLineEnd : rm_Ok 0 0 0 0 rm_Lin_countLineEnd := ⟨Nat.le_refl _, Nat.le_refl _, Nat.le_refl _, Nat.le_refl _⟩
def f_Lin_answer_b15 (w_answer : Nat → Int32 → Nat → Int32 → Hs_t → Rs_t) : Nat → Nat → Nat → Int32 → Int32 → Int32 → Hs_t → Rs_t
  | 0, _, _, _, _, _, _ => none
  | n + 1, t0, x2, x3, x4, x5, h0 => if x4 ≤ x5 then (re_I x4 h0) else ((ar_I h0 x2 (x3 + x5)).bind fun v3 => (ck_T [7] h0 t0).bind fun _ => bd_V (f_Lin_countLineEnd t0 v3 h0) (fun h2 => (f_Lin_answer_b15 w_answer n) t0 x2 x3 x4 (x5 + 1) h2))
def f_Lin_answer (w_answer : Nat → Int32 → Nat → Int32 → Hs_t → Rs_t) (t0 : Nat) (x1 : Int32) (x2 : Nat) (x3 : Int32) (h0 : Hs_t) : Rs_t := (fd_A [7] 0 h0 t0).bind fun v1 => bd_I (w_answer v1 x1 x2 x3 h0) (fun v2 h1 => f_Lin_answer_b15 w_answer fu_N t0 x2 x3 v2 0 h1)
set_option maxRecDepth 100000 in
set_option maxHeartbeats 4000000 in
theorem k_Lin_answer_b15 {p : Program} {l : Launch} {e : Env} {s : State} {m : MethodId} {args : Array Value} {below : List Frame} {meth : Method} {c : Code} {s0 : State} {A0 : Array Value} {G : Gx_t} {r : Outcome × Hs_t} {rm : Room} (FW LW : Nat) (w_answer : Nat → Int32 → Nat → Int32 → Hs_t → Rs_t) (hc : Cx_t p s m meth c s0 A0 l G y_Lin_answer b_Lin_answer 6 (some .int) []) (hrm : rm_Ok 0 0 (FW + 1) (LW + 29) rm) (hw_answer : ∀ (a : Nat) (x1 : Int32) (x2 : Nat) (x3 : Int32) (h : Hs_t) (r0 : Outcome × Hs_t), w_answer a x1 x2 x3 h = some r0 → V_X G s0 l xn_answer { frames := FW, cells := 0, slots := 0, locals := LW } a [.int x1, .ref x2, .int x3] h r0) : ∀ (n : Nat) (t0 : Nat) (x2 : Nat) (x3 : Int32) (x4 : Int32) (x5 : Int32) (h0 : Hs_t) (H : Heap) (locs : List Loc) (ls : Array Slot), Rp_h G s0.heap h0 H → Lo_k s0 locs → lv_has ls 6 [(0, .ref t0), (2, .ref x2), (3, .int x3), (4, .int x4), (5, .int x5)] → f_Lin_answer_b15 w_answer n t0 x2 x3 x4 x5 h0 = some r → W p l e rm s m args below meth c H locs 0 0 (xq_MQ G s0 below r s rm.cells rm.slots) (F0 m 15 ls []) := by
  have hx := hc.x
  have hb := hc.b
  obtain ⟨hm1, hm2, hm3, hm4⟩ := id hrm
  intro n
  induction n with
  | zero =>
    intro t0 x2 x3 x4 x5 h0 H locs ls hR hLo hl heq
    unfold f_Lin_answer_b15 at heq
    cases heq
  | succ n hr15 =>
    intro t0 x2 x3 x4 x5 h0 H locs ls hR hLo hl heq
    unfold f_Lin_answer_b15 at heq
    refine lv_iload hx hb d_Lin_answer_15 (lv_at hl 4 rfl) ?_
    refine lv_iload hx hb d_Lin_answer_17 (lv_at hl 3 rfl) ?_
    refine lv_icmp_ge (tgt := 38) hx hb d_Lin_answer_19 rfl (fun hq => ?_) (fun hq => ?_)
    · rw [if_pos hq] at heq
      refine lv_iload hx hb d_Lin_answer_38 (lv_at hl 3 rfl) ?_
      exact x_iret hc hR hLo ⟨by omega, by omega⟩ heq d_Lin_answer_40
    · rw [if_neg hq] at heq
      refine lv_aload_n hx hb d_Lin_answer_22 rfl (lv_at hl 0 rfl) ?_
      refine lv_aload_n hx hb d_Lin_answer_23 rfl (lv_at hl 1 rfl) ?_
      refine lv_iload_n hx hb d_Lin_answer_24 rfl (lv_at hl 2 rfl) ?_
      refine lv_iload hx hb d_Lin_answer_25 (lv_at hl 4 rfl) ?_
      refine lv_iadd hx hb d_Lin_answer_27 ?_
      refine x_aI hc hR heq d_Lin_answer_28 (fun v3 heq => ?_)
      refine x_ck heq (fun tt fs ha ht heq => ?_)
      obtain rfl : tt = 7 := by simpa using ht
      refine x_bV (mc := 0) (ms := 0) (st := []) hc hLo heq ⟨by omega, by omega⟩ (fun r9 h9 => x_runV hc (c_Lin_countLineEnd hc.g rm_Lin_countLineEnd rk_Lin_countLineEnd _ _ _ _ h9) md_Lin_countLineEnd hR ha rfl wd_470 wd_472 sp_5 hl.1 ml_Lin_countLineEnd rfl (Nat.le_of_ble_eq_true rfl) d_Lin_answer_29 ⟨by show 0 + 1 ≤ _; omega, by show 8 + (2 + 11) + (0) ≤ _; omega⟩ ⟨by show 0 + 0 ≤ _; omega, by show 0 + 0 ≤ _; omega⟩) (fun h2 H locs hR hLo heq => ?_)
      refine lv_iinc (k := 4) (v := (x5 + 1)) (lv' := [(5, .int (x5 + 1)), (0, .ref t0), (2, .ref x2), (3, .int x3), (4, .int x4)]) hx hb d_Lin_answer_32 hl rfl rfl (by decide) rfl (fun ls hl => ?_)
      refine lv_goto (tgt := 15) hx hb d_Lin_answer_35 rfl ?_
      refine W.widen (k := 0) (n := 0) (by omega) (by omega) ?_
      exact hr15 t0 x2 x3 x4 (x5 + 1) h2 H locs ls hR hLo (lv_sub hl [1, 2, 3, 4, 0] rfl) heq
set_option maxRecDepth 100000 in
set_option maxHeartbeats 4000000 in
theorem c_Lin_answer {l : Launch} {s0 : State} {A0 : Array Value} {G : Gx_t} (hG : G_0 l s0 A0 G) (FW LW : Nat) (w_answer : Nat → Int32 → Nat → Int32 → Hs_t → Rs_t) (rm : Room) (hrm : rm_Ok 0 0 (FW + 1) (LW + 29) rm) (hw_answer : ∀ (a : Nat) (x1 : Int32) (x2 : Nat) (x3 : Int32) (h : Hs_t) (r0 : Outcome × Hs_t), w_answer a x1 x2 x3 h = some r0 → V_X G s0 l xn_answer { frames := FW, cells := 0, slots := 0, locals := LW } a [.int x1, .ref x2, .int x3] h r0) (t0 : Nat) (x1 : Int32) (x2 : Nat) (x3 : Int32) (h0 : Hs_t) (r : Outcome × Hs_t) (heq : f_Lin_answer w_answer t0 x1 x2 x3 h0 = some r) : M_X G s0 l y_Lin_answer (.code y_Lin_answer b_Lin_answer 6 (some .int)) rm [.ref t0, .int x1, .ref x2, .int x3] h0 r := by
  refine M_X.of (by decide) hG (fun p e s m below meth c H hc hR => ?_)
  have hx := hc.x
  have hb := hc.b
  obtain ⟨hm1, hm2, hm3, hm4⟩ := id hrm
  have hLo : Lo_k s0 [] := fun _ hq => absurd hq List.not_mem_nil
  have hl := lv_entry ([.ref t0, .int x1, .ref x2, .int x3]) (n := 6) (Nat.le_of_ble_eq_true rfl)
  rw [lg_entry_eq]
  generalize (lg_sl ([.ref t0, .int x1, .ref x2, .int x3]) ++ List.replicate (6 - (lg_sl ([.ref t0, .int x1, .ref x2, .int x3])).length) Slot.unset).toArray = ls at hl ⊢
  have hl : lv_has ls 6 [(0, .ref t0), (1, .int x1), (2, .ref x2), (3, .int x3)] := hl
  generalize hle : ([] : List Loc) = locs at hLo ⊢
  unfold f_Lin_answer at heq
  refine lv_aload_n hx hb d_Lin_answer_0 rfl (lv_at hl 0 rfl) ?_
  refine x_gA hc hR fl_Lin_9 heq d_Lin_answer_1 (fun v1 heq => ?_)
  refine lv_iload_n hx hb d_Lin_answer_4 rfl (lv_at hl 1 rfl) ?_
  refine lv_aload_n hx hb d_Lin_answer_5 rfl (lv_at hl 2 rfl) ?_
  refine lv_iload_n hx hb d_Lin_answer_6 rfl (lv_at hl 3 rfl) ?_
  refine x_bI (mc := 0) (ms := 0) (st := []) hc hLo heq ⟨by omega, by omega⟩ (fun r9 h9 => x_runW hc (hw_answer _ _ _ _ _ _ h9) hR wd_458 wd_445 (Or.inl wd_444) (by decide) hl.1 xl_answer rfl (Nat.le_of_ble_eq_true rfl) d_Lin_answer_7 ⟨by show FW + 0 + 1 ≤ _; omega, by show 8 + (10 + 11) + (LW + 0) ≤ _; omega⟩ ⟨by show 0 + 0 ≤ _; omega, by show 0 + 0 ≤ _; omega⟩) (fun v2 h1 H locs hR hLo heq => ?_)
  refine lv_istore (lv' := [(4, .int v2), (0, .ref t0), (1, .int x1), (2, .ref x2), (3, .int x3)]) hx hb d_Lin_answer_10 hl (by decide) rfl (fun ls hl => ?_)
  refine lv_iconst (v := 0) hx hb d_Lin_answer_12 (by decide) ?_
  refine lv_istore (lv' := [(5, .int 0), (4, .int v2), (0, .ref t0), (1, .int x1), (2, .ref x2), (3, .int x3)]) hx hb d_Lin_answer_13 hl (by decide) rfl (fun ls hl => ?_)
  refine W.widen (k := 0) (n := 0) (by omega) (by omega) ?_
  exact k_Lin_answer_b15 FW LW w_answer hc hrm hw_answer fu_N t0 x2 x3 v2 0 h1 H locs ls hR hLo (lv_sub hl [2, 4, 5, 1, 0] rfl) heq
def f_Lin_state (t0 : Nat) (h0 : Hs_t) : Rs_t := (fd_I [7] 1 h0 t0).bind fun v1 => re_I v1 h0
set_option maxRecDepth 100000 in
set_option maxHeartbeats 4000000 in
theorem c_Lin_state {l : Launch} {s0 : State} {A0 : Array Value} {G : Gx_t} (hG : G_0 l s0 A0 G) (rm : Room) (hrm : rm_Ok 0 0 0 0 rm) (t0 : Nat) (h0 : Hs_t) (r : Outcome × Hs_t) (heq : f_Lin_state t0 h0 = some r) : M_X G s0 l y_Lin_state (.code y_Lin_state b_Lin_state 1 (some .int)) rm [.ref t0] h0 r := by
  refine M_X.of (by decide) hG (fun p e s m below meth c H hc hR => ?_)
  have hx := hc.x
  have hb := hc.b
  obtain ⟨hm1, hm2, hm3, hm4⟩ := id hrm
  have hLo : Lo_k s0 [] := fun _ hq => absurd hq List.not_mem_nil
  have hl := lv_entry ([.ref t0]) (n := 1) (Nat.le_of_ble_eq_true rfl)
  rw [lg_entry_eq]
  generalize (lg_sl ([.ref t0]) ++ List.replicate (1 - (lg_sl ([.ref t0])).length) Slot.unset).toArray = ls at hl ⊢
  have hl : lv_has ls 1 [(0, .ref t0)] := hl
  generalize hle : ([] : List Loc) = locs at hLo ⊢
  unfold f_Lin_state at heq
  refine lv_aload_n hx hb d_Lin_state_0 rfl (lv_at hl 0 rfl) ?_
  refine x_gI hc hR fl_Lin_29 heq d_Lin_state_1 (fun v1 heq => ?_)
  exact x_iret hc hR hLo ⟨by omega, by omega⟩ heq d_Lin_state_4
def rm_Lin_state : Room := { frames := 0, cells := 0, slots := 0, locals := 0 }
theorem rk_Lin_state : rm_Ok 0 0 0 0 rm_Lin_state := ⟨Nat.le_refl _, Nat.le_refl _, Nat.le_refl _, Nat.le_refl _⟩
def f_Lin_remember (t0 : Nat) (h0 : Hs_t) : Rs_t := (fd_I [7] 1 h0 t0).bind fun v1 => (pt_V [7] 2 h0 t0 (.int v1)).bind fun h1 => (fd_I [7] 3 h1 t0).bind fun v2 => (pt_Z [7] 4 h1 t0 v2).bind fun h2 => re_V h2
set_option maxRecDepth 100000 in
set_option maxHeartbeats 4000000 in
theorem c_Lin_remember {l : Launch} {s0 : State} {A0 : Array Value} {G : Gx_t} (hG : G_0 l s0 A0 G) (rm : Room) (hrm : rm_Ok 0 0 0 0 rm) (t0 : Nat) (h0 : Hs_t) (r : Outcome × Hs_t) (heq : f_Lin_remember t0 h0 = some r) : M_X G s0 l y_Lin_remember (.code y_Lin_remember b_Lin_remember 1 none) rm [.ref t0] h0 r := by
  refine M_X.of (by decide) hG (fun p e s m below meth c H hc hR => ?_)
  have hx := hc.x
  have hb := hc.b
  obtain ⟨hm1, hm2, hm3, hm4⟩ := id hrm
  have hLo : Lo_k s0 [] := fun _ hq => absurd hq List.not_mem_nil
  have hl := lv_entry ([.ref t0]) (n := 1) (Nat.le_of_ble_eq_true rfl)
  rw [lg_entry_eq]
  generalize (lg_sl ([.ref t0]) ++ List.replicate (1 - (lg_sl ([.ref t0])).length) Slot.unset).toArray = ls at hl ⊢
  have hl : lv_has ls 1 [(0, .ref t0)] := hl
  generalize hle : ([] : List Loc) = locs at hLo ⊢
  unfold f_Lin_remember at heq
  refine lv_aload_n hx hb d_Lin_remember_0 rfl (lv_at hl 0 rfl) ?_
  refine lv_aload_n hx hb d_Lin_remember_1 rfl (lv_at hl 0 rfl) ?_
  refine x_gI hc hR fl_Lin_29 heq d_Lin_remember_2 (fun v1 heq => ?_)
  refine x_pV hc hR hLo fl_Lin_33 (Or.inl rfl) rfl rfl heq d_Lin_remember_5 (fun h1 H locs hR hLo heq => ?_)
  refine lv_aload_n hx hb d_Lin_remember_8 rfl (lv_at hl 0 rfl) ?_
  refine lv_aload_n hx hb d_Lin_remember_9 rfl (lv_at hl 0 rfl) ?_
  refine x_gI hc hR fl_Lin_25 heq d_Lin_remember_10 (fun v2 heq => ?_)
  refine x_pZ hc hR hLo fl_Lin_36 (Or.inl rfl) heq d_Lin_remember_13 (fun h2 H locs hR hLo heq => ?_)
  exact x_vret hc hR hLo ⟨by omega, by omega⟩ heq d_Lin_remember_16
def rm_Lin_remember : Room := { frames := 0, cells := 0, slots := 0, locals := 0 }
theorem rk_Lin_remember : rm_Ok 0 0 0 0 rm_Lin_remember := ⟨Nat.le_refl _, Nat.le_refl _, Nat.le_refl _, Nat.le_refl _⟩
def f_Lin_recall (t0 : Nat) (h0 : Hs_t) : Rs_t := (fd_I [7] 2 h0 t0).bind fun v1 => (pt_V [7] 1 h0 t0 (.int v1)).bind fun h1 => (fd_I [7] 4 h1 t0).bind fun v2 => (pt_Z [7] 3 h1 t0 v2).bind fun h2 => re_V h2
set_option maxRecDepth 100000 in
set_option maxHeartbeats 4000000 in
theorem c_Lin_recall {l : Launch} {s0 : State} {A0 : Array Value} {G : Gx_t} (hG : G_0 l s0 A0 G) (rm : Room) (hrm : rm_Ok 0 0 0 0 rm) (t0 : Nat) (h0 : Hs_t) (r : Outcome × Hs_t) (heq : f_Lin_recall t0 h0 = some r) : M_X G s0 l y_Lin_recall (.code y_Lin_recall b_Lin_recall 1 none) rm [.ref t0] h0 r := by
  refine M_X.of (by decide) hG (fun p e s m below meth c H hc hR => ?_)
  have hx := hc.x
  have hb := hc.b
  obtain ⟨hm1, hm2, hm3, hm4⟩ := id hrm
  have hLo : Lo_k s0 [] := fun _ hq => absurd hq List.not_mem_nil
  have hl := lv_entry ([.ref t0]) (n := 1) (Nat.le_of_ble_eq_true rfl)
  rw [lg_entry_eq]
  generalize (lg_sl ([.ref t0]) ++ List.replicate (1 - (lg_sl ([.ref t0])).length) Slot.unset).toArray = ls at hl ⊢
  have hl : lv_has ls 1 [(0, .ref t0)] := hl
  generalize hle : ([] : List Loc) = locs at hLo ⊢
  unfold f_Lin_recall at heq
  refine lv_aload_n hx hb d_Lin_recall_0 rfl (lv_at hl 0 rfl) ?_
  refine lv_aload_n hx hb d_Lin_recall_1 rfl (lv_at hl 0 rfl) ?_
  refine x_gI hc hR fl_Lin_33 heq d_Lin_recall_2 (fun v1 heq => ?_)
  refine x_pV hc hR hLo fl_Lin_29 (Or.inl rfl) rfl rfl heq d_Lin_recall_5 (fun h1 H locs hR hLo heq => ?_)
  refine lv_aload_n hx hb d_Lin_recall_8 rfl (lv_at hl 0 rfl) ?_
  refine lv_aload_n hx hb d_Lin_recall_9 rfl (lv_at hl 0 rfl) ?_
  refine x_gI hc hR fl_Lin_36 heq d_Lin_recall_10 (fun v2 heq => ?_)
  refine x_pZ hc hR hLo fl_Lin_25 (Or.inl rfl) heq d_Lin_recall_13 (fun h2 H locs hR hLo heq => ?_)
  exact x_vret hc hR hLo ⟨by omega, by omega⟩ heq d_Lin_recall_16
def rm_Lin_recall : Room := { frames := 0, cells := 0, slots := 0, locals := 0 }
theorem rk_Lin_recall : rm_Ok 0 0 0 0 rm_Lin_recall := ⟨Nat.le_refl _, Nat.le_refl _, Nat.le_refl _, Nat.le_refl _⟩
def f_Pas_ready (w_ready : Nat → Hs_t → Rs_t) (t0 : Nat) (h0 : Hs_t) : Rs_t := (fd_A [5, 6, 7] 0 h0 t0).bind fun v1 => bd_I (w_ready v1 h0) (fun v2 h1 => re_I v2 h1)
set_option maxRecDepth 100000 in
set_option maxHeartbeats 4000000 in
theorem c_Pas_ready {l : Launch} {s0 : State} {A0 : Array Value} {G : Gx_t} (hG : G_0 l s0 A0 G) (FW LW : Nat) (w_ready : Nat → Hs_t → Rs_t) (rm : Room) (hrm : rm_Ok 0 0 (FW + 1) (LW + 29) rm) (hw_ready : ∀ (a : Nat) (h : Hs_t) (r0 : Outcome × Hs_t), w_ready a h = some r0 → V_X G s0 l xn_ready { frames := FW, cells := 0, slots := 0, locals := LW } a [] h r0) (t0 : Nat) (h0 : Hs_t) (r : Outcome × Hs_t) (heq : f_Pas_ready w_ready t0 h0 = some r) : M_X G s0 l y_Pas_ready (.code y_Pas_ready b_Pas_ready 1 (some .int)) rm [.ref t0] h0 r := by
  refine M_X.of (by decide) hG (fun p e s m below meth c H hc hR => ?_)
  have hx := hc.x
  have hb := hc.b
  obtain ⟨hm1, hm2, hm3, hm4⟩ := id hrm
  have hLo : Lo_k s0 [] := fun _ hq => absurd hq List.not_mem_nil
  have hl := lv_entry ([.ref t0]) (n := 1) (Nat.le_of_ble_eq_true rfl)
  rw [lg_entry_eq]
  generalize (lg_sl ([.ref t0]) ++ List.replicate (1 - (lg_sl ([.ref t0])).length) Slot.unset).toArray = ls at hl ⊢
  have hl : lv_has ls 1 [(0, .ref t0)] := hl
  generalize hle : ([] : List Loc) = locs at hLo ⊢
  unfold f_Pas_ready at heq
  refine lv_aload_n hx hb d_Pas_ready_0 rfl (lv_at hl 0 rfl) ?_
  refine x_gA hc hR fl_Pas_7 heq d_Pas_ready_1 (fun v1 heq => ?_)
  refine x_bI (mc := 0) (ms := 0) (st := []) hc hLo heq ⟨by omega, by omega⟩ (fun r9 h9 => x_runW hc (hw_ready _ _ _ h9) hR wd_137 wd_130 (Or.inl wd_129) (by decide) hl.1 xl_ready rfl (Nat.le_of_ble_eq_true rfl) d_Pas_ready_4 ⟨by show FW + 0 + 1 ≤ _; omega, by show 8 + (10 + 11) + (LW + 0) ≤ _; omega⟩ ⟨by show 0 + 0 ≤ _; omega, by show 0 + 0 ≤ _; omega⟩) (fun v2 h1 H locs hR hLo heq => ?_)
  exact x_iret hc hR hLo ⟨by omega, by omega⟩ heq d_Pas_ready_7
def f_Pas_canBeMarked (w_canBeMarked : Nat → Hs_t → Rs_t) (t0 : Nat) (h0 : Hs_t) : Rs_t := (fd_A [5, 6, 7] 0 h0 t0).bind fun v1 => bd_I (w_canBeMarked v1 h0) (fun v2 h1 => re_Z v2 h1)
set_option maxRecDepth 100000 in
set_option maxHeartbeats 4000000 in
theorem c_Pas_canBeMarked {l : Launch} {s0 : State} {A0 : Array Value} {G : Gx_t} (hG : G_0 l s0 A0 G) (FW LW : Nat) (w_canBeMarked : Nat → Hs_t → Rs_t) (rm : Room) (hrm : rm_Ok 0 0 (FW + 1) (LW + 29) rm) (hw_canBeMarked : ∀ (a : Nat) (h : Hs_t) (r0 : Outcome × Hs_t), w_canBeMarked a h = some r0 → V_X G s0 l xn_canBeMarked { frames := FW, cells := 0, slots := 0, locals := LW } a [] h r0) (t0 : Nat) (h0 : Hs_t) (r : Outcome × Hs_t) (heq : f_Pas_canBeMarked w_canBeMarked t0 h0 = some r) : M_X G s0 l y_Pas_canBeMarked (.code y_Pas_canBeMarked b_Pas_canBeMarked 1 (some .boolean)) rm [.ref t0] h0 r := by
  refine M_X.of (by decide) hG (fun p e s m below meth c H hc hR => ?_)
  have hx := hc.x
  have hb := hc.b
  obtain ⟨hm1, hm2, hm3, hm4⟩ := id hrm
  have hLo : Lo_k s0 [] := fun _ hq => absurd hq List.not_mem_nil
  have hl := lv_entry ([.ref t0]) (n := 1) (Nat.le_of_ble_eq_true rfl)
  rw [lg_entry_eq]
  generalize (lg_sl ([.ref t0]) ++ List.replicate (1 - (lg_sl ([.ref t0])).length) Slot.unset).toArray = ls at hl ⊢
  have hl : lv_has ls 1 [(0, .ref t0)] := hl
  generalize hle : ([] : List Loc) = locs at hLo ⊢
  unfold f_Pas_canBeMarked at heq
  refine lv_aload_n hx hb d_Pas_canBeMarked_0 rfl (lv_at hl 0 rfl) ?_
  refine x_gA hc hR fl_Pas_7 heq d_Pas_canBeMarked_1 (fun v1 heq => ?_)
  refine x_bI (mc := 0) (ms := 0) (st := []) hc hLo heq ⟨by omega, by omega⟩ (fun r9 h9 => x_runW hc (hw_canBeMarked _ _ _ h9) hR wd_598 wd_591 (Or.inr ⟨_, _, _, wd_590, wd_603⟩) (by decide) hl.1 xl_canBeMarked rfl (Nat.le_of_ble_eq_true rfl) d_Pas_canBeMarked_4 ⟨by show FW + 0 + 1 ≤ _; omega, by show 8 + (10 + 11) + (LW + 0) ≤ _; omega⟩ ⟨by show 0 + 0 ≤ _; omega, by show 0 + 0 ≤ _; omega⟩) (fun v2 h1 H locs hR hLo heq => ?_)
  exact x_zret hc hR hLo ⟨by omega, by omega⟩ heq d_Pas_canBeMarked_7
def f_Pas_hasMark (w_hasMark : Nat → Hs_t → Rs_t) (t0 : Nat) (h0 : Hs_t) : Rs_t := (fd_A [5, 6, 7] 0 h0 t0).bind fun v1 => bd_I (w_hasMark v1 h0) (fun v2 h1 => re_Z v2 h1)
set_option maxRecDepth 100000 in
set_option maxHeartbeats 4000000 in
theorem c_Pas_hasMark {l : Launch} {s0 : State} {A0 : Array Value} {G : Gx_t} (hG : G_0 l s0 A0 G) (FW LW : Nat) (w_hasMark : Nat → Hs_t → Rs_t) (rm : Room) (hrm : rm_Ok 0 0 (FW + 1) (LW + 29) rm) (hw_hasMark : ∀ (a : Nat) (h : Hs_t) (r0 : Outcome × Hs_t), w_hasMark a h = some r0 → V_X G s0 l xn_hasMark { frames := FW, cells := 0, slots := 0, locals := LW } a [] h r0) (t0 : Nat) (h0 : Hs_t) (r : Outcome × Hs_t) (heq : f_Pas_hasMark w_hasMark t0 h0 = some r) : M_X G s0 l y_Pas_hasMark (.code y_Pas_hasMark b_Pas_hasMark 1 (some .boolean)) rm [.ref t0] h0 r := by
  refine M_X.of (by decide) hG (fun p e s m below meth c H hc hR => ?_)
  have hx := hc.x
  have hb := hc.b
  obtain ⟨hm1, hm2, hm3, hm4⟩ := id hrm
  have hLo : Lo_k s0 [] := fun _ hq => absurd hq List.not_mem_nil
  have hl := lv_entry ([.ref t0]) (n := 1) (Nat.le_of_ble_eq_true rfl)
  rw [lg_entry_eq]
  generalize (lg_sl ([.ref t0]) ++ List.replicate (1 - (lg_sl ([.ref t0])).length) Slot.unset).toArray = ls at hl ⊢
  have hl : lv_has ls 1 [(0, .ref t0)] := hl
  generalize hle : ([] : List Loc) = locs at hLo ⊢
  unfold f_Pas_hasMark at heq
  refine lv_aload_n hx hb d_Pas_hasMark_0 rfl (lv_at hl 0 rfl) ?_
  refine x_gA hc hR fl_Pas_7 heq d_Pas_hasMark_1 (fun v1 heq => ?_)
  refine x_bI (mc := 0) (ms := 0) (st := []) hc hLo heq ⟨by omega, by omega⟩ (fun r9 h9 => x_runW hc (hw_hasMark _ _ _ h9) hR wd_662 wd_655 (Or.inr ⟨_, _, _, wd_654, wd_667⟩) (by decide) hl.1 xl_hasMark rfl (Nat.le_of_ble_eq_true rfl) d_Pas_hasMark_4 ⟨by show FW + 0 + 1 ≤ _; omega, by show 8 + (10 + 11) + (LW + 0) ≤ _; omega⟩ ⟨by show 0 + 0 ≤ _; omega, by show 0 + 0 ≤ _; omega⟩) (fun v2 h1 H locs hR hLo heq => ?_)
  exact x_zret hc hR hLo ⟨by omega, by omega⟩ heq d_Pas_hasMark_7
def v_remember (a : Nat) (h : Hs_t) : Rs_t := match tg_O h a with
    | some t => if t = 5 then f_Lim_remember a h else (if t = 6 then f_Cod_remember a h else (if t = 7 then f_Lin_remember a h else (none)))
    | none => none
set_option maxHeartbeats 4000000 in
theorem vk_remember {l : Launch} {s0 : State} {A0 : Array Value} {G : Gx_t} (hG : G_0 l s0 A0 G) (a : Nat) (h : Hs_t) (r0 : Outcome × Hs_t) (heq : v_remember a h = some r0) : V_X G s0 l xn_remember { frames := 6, cells := 0, slots := 0, locals := 80 } a [] h r0 := by
  unfold v_remember at heq
  cases ht : tg_O h a with
  | none => simp [ht] at heq
  | some t =>
    simp only [ht] at heq
    obtain ⟨fs, hx⟩ := tg_O_spec ht
    by_cases h5 : t = 5
    · subst h5
      rw [if_pos rfl] at heq
      exact ⟨5, _, fs, _, _, y_Lim_remember, _, 1, hx, rfl, ⟨md_Lim_remember, wd_636, wd_635⟩, by decide, c_Lim_remember hG _ ⟨Nat.le_refl _, Nat.le_refl _, by show 0 ≤ 6; omega, by show 0 ≤ 80; omega⟩ _ _ _ heq⟩
    rw [if_neg h5] at heq
    by_cases h6 : t = 6
    · subst h6
      rw [if_pos rfl] at heq
      exact ⟨6, _, fs, _, _, y_Cod_remember, _, 1, hx, rfl, ⟨md_Cod_remember, wd_633, wd_632⟩, by decide, c_Cod_remember hG _ ⟨Nat.le_refl _, Nat.le_refl _, by show 0 ≤ 6; omega, by show 0 ≤ 80; omega⟩ _ _ _ heq⟩
    rw [if_neg h6] at heq
    by_cases h7 : t = 7
    · subst h7
      rw [if_pos rfl] at heq
      exact ⟨7, _, fs, _, _, y_Lin_remember, _, 1, hx, rfl, ⟨md_Lin_remember, wd_639, wd_638⟩, by decide, c_Lin_remember hG _ ⟨Nat.le_refl _, Nat.le_refl _, by show 0 ≤ 6; omega, by show 0 ≤ 80; omega⟩ _ _ _ heq⟩
    rw [if_neg h7] at heq
    cases heq
def f_Pas_takeMark (w_takeMark : Nat → Int32 → Hs_t → Rs_t) (t0 : Nat) (x1 : Int32) (h0 : Hs_t) : Rs_t := (fd_A [5, 6, 7] 0 h0 t0).bind fun v1 => bd_V (w_takeMark v1 x1 h0) (fun h1 => bd_V (v_remember t0 h1) (fun h2 => re_V h2))
set_option maxRecDepth 100000 in
set_option maxHeartbeats 4000000 in
theorem c_Pas_takeMark {l : Launch} {s0 : State} {A0 : Array Value} {G : Gx_t} (hG : G_0 l s0 A0 G) (FW LW : Nat) (w_takeMark : Nat → Int32 → Hs_t → Rs_t) (rm : Room) (hrm : rm_Ok 0 0 (FW + 7) (LW + 109) rm) (hw_takeMark : ∀ (a : Nat) (x1 : Int32) (h : Hs_t) (r0 : Outcome × Hs_t), w_takeMark a x1 h = some r0 → V_X G s0 l xn_takeMark { frames := FW, cells := 0, slots := 0, locals := LW } a [.int x1] h r0) (t0 : Nat) (x1 : Int32) (h0 : Hs_t) (r : Outcome × Hs_t) (heq : f_Pas_takeMark w_takeMark t0 x1 h0 = some r) : M_X G s0 l y_Pas_takeMark (.code y_Pas_takeMark b_Pas_takeMark 2 none) rm [.ref t0, .int x1] h0 r := by
  refine M_X.of (by decide) hG (fun p e s m below meth c H hc hR => ?_)
  have hx := hc.x
  have hb := hc.b
  obtain ⟨hm1, hm2, hm3, hm4⟩ := id hrm
  have hLo : Lo_k s0 [] := fun _ hq => absurd hq List.not_mem_nil
  have hl := lv_entry ([.ref t0, .int x1]) (n := 2) (Nat.le_of_ble_eq_true rfl)
  rw [lg_entry_eq]
  generalize (lg_sl ([.ref t0, .int x1]) ++ List.replicate (2 - (lg_sl ([.ref t0, .int x1])).length) Slot.unset).toArray = ls at hl ⊢
  have hl : lv_has ls 2 [(0, .ref t0), (1, .int x1)] := hl
  generalize hle : ([] : List Loc) = locs at hLo ⊢
  unfold f_Pas_takeMark at heq
  refine lv_aload_n hx hb d_Pas_takeMark_0 rfl (lv_at hl 0 rfl) ?_
  refine x_gA hc hR fl_Pas_7 heq d_Pas_takeMark_1 (fun v1 heq => ?_)
  refine lv_iload_n hx hb d_Pas_takeMark_4 rfl (lv_at hl 1 rfl) ?_
  refine x_bV (mc := 0) (ms := 0) (st := []) hc hLo heq ⟨by omega, by omega⟩ (fun r9 h9 => x_runW hc (hw_takeMark _ _ _ _ h9) hR wd_628 wd_621 (Or.inr ⟨_, _, _, wd_620, wd_645⟩) (by decide) hl.1 xl_takeMark rfl (Nat.le_of_ble_eq_true rfl) d_Pas_takeMark_5 ⟨by show FW + 0 + 1 ≤ _; omega, by show 8 + (10 + 11) + (LW + 0) ≤ _; omega⟩ ⟨by show 0 + 0 ≤ _; omega, by show 0 + 0 ≤ _; omega⟩) (fun h1 H locs hR hLo heq => ?_)
  refine lv_aload_n hx hb d_Pas_takeMark_8 rfl (lv_at hl 0 rfl) ?_
  refine x_bV (mc := 0) (ms := 0) (st := []) hc hLo heq ⟨by omega, by omega⟩ (fun r9 h9 => x_runW hc (vk_remember hc.g _ _ _ h9) hR wd_629 wd_631 (Or.inl wd_630) (by decide) hl.1 xl_remember rfl (Nat.le_of_ble_eq_true rfl) d_Pas_takeMark_9 ⟨by show 6 + 1 ≤ _; omega, by show 8 + (10 + 11) + (80) ≤ _; omega⟩ ⟨by show 0 + 0 ≤ _; omega, by show 0 + 0 ≤ _; omega⟩) (fun h2 H locs hR hLo heq => ?_)
  exact x_vret hc hR hLo ⟨by omega, by omega⟩ heq d_Pas_takeMark_12
def v_recall (a : Nat) (h : Hs_t) : Rs_t := match tg_O h a with
    | some t => if t = 5 then f_Lim_recall a h else (if t = 6 then f_Cod_recall a h else (if t = 7 then f_Lin_recall a h else (none)))
    | none => none
set_option maxHeartbeats 4000000 in
theorem vk_recall {l : Launch} {s0 : State} {A0 : Array Value} {G : Gx_t} (hG : G_0 l s0 A0 G) (a : Nat) (h : Hs_t) (r0 : Outcome × Hs_t) (heq : v_recall a h = some r0) : V_X G s0 l xn_recall { frames := 6, cells := 0, slots := 0, locals := 80 } a [] h r0 := by
  unfold v_recall at heq
  cases ht : tg_O h a with
  | none => simp [ht] at heq
  | some t =>
    simp only [ht] at heq
    obtain ⟨fs, hx⟩ := tg_O_spec ht
    by_cases h5 : t = 5
    · subst h5
      rw [if_pos rfl] at heq
      exact ⟨5, _, fs, _, _, y_Lim_recall, _, 1, hx, rfl, ⟨md_Lim_recall, wd_685, wd_684⟩, by decide, c_Lim_recall hG _ ⟨Nat.le_refl _, Nat.le_refl _, by show 0 ≤ 6; omega, by show 0 ≤ 80; omega⟩ _ _ _ heq⟩
    rw [if_neg h5] at heq
    by_cases h6 : t = 6
    · subst h6
      rw [if_pos rfl] at heq
      exact ⟨6, _, fs, _, _, y_Cod_recall, _, 1, hx, rfl, ⟨md_Cod_recall, wd_682, wd_681⟩, by decide, c_Cod_recall hG _ ⟨Nat.le_refl _, Nat.le_refl _, by show 0 ≤ 6; omega, by show 0 ≤ 80; omega⟩ _ _ _ heq⟩
    rw [if_neg h6] at heq
    by_cases h7 : t = 7
    · subst h7
      rw [if_pos rfl] at heq
      exact ⟨7, _, fs, _, _, y_Lin_recall, _, 1, hx, rfl, ⟨md_Lin_recall, wd_688, wd_687⟩, by decide, c_Lin_recall hG _ ⟨Nat.le_refl _, Nat.le_refl _, by show 0 ≤ 6; omega, by show 0 ≤ 80; omega⟩ _ _ _ heq⟩
    rw [if_neg h7] at heq
    cases heq
def f_Pas_goBack (w_goBack : Nat → Hs_t → Rs_t) (t0 : Nat) (h0 : Hs_t) : Rs_t := (fd_A [5, 6, 7] 0 h0 t0).bind fun v1 => bd_V (w_goBack v1 h0) (fun h1 => bd_V (v_recall t0 h1) (fun h2 => re_V h2))
set_option maxRecDepth 100000 in
set_option maxHeartbeats 4000000 in
theorem c_Pas_goBack {l : Launch} {s0 : State} {A0 : Array Value} {G : Gx_t} (hG : G_0 l s0 A0 G) (FW LW : Nat) (w_goBack : Nat → Hs_t → Rs_t) (rm : Room) (hrm : rm_Ok 0 0 (FW + 7) (LW + 109) rm) (hw_goBack : ∀ (a : Nat) (h : Hs_t) (r0 : Outcome × Hs_t), w_goBack a h = some r0 → V_X G s0 l xn_goBack { frames := FW, cells := 0, slots := 0, locals := LW } a [] h r0) (t0 : Nat) (h0 : Hs_t) (r : Outcome × Hs_t) (heq : f_Pas_goBack w_goBack t0 h0 = some r) : M_X G s0 l y_Pas_goBack (.code y_Pas_goBack b_Pas_goBack 1 none) rm [.ref t0] h0 r := by
  refine M_X.of (by decide) hG (fun p e s m below meth c H hc hR => ?_)
  have hx := hc.x
  have hb := hc.b
  obtain ⟨hm1, hm2, hm3, hm4⟩ := id hrm
  have hLo : Lo_k s0 [] := fun _ hq => absurd hq List.not_mem_nil
  have hl := lv_entry ([.ref t0]) (n := 1) (Nat.le_of_ble_eq_true rfl)
  rw [lg_entry_eq]
  generalize (lg_sl ([.ref t0]) ++ List.replicate (1 - (lg_sl ([.ref t0])).length) Slot.unset).toArray = ls at hl ⊢
  have hl : lv_has ls 1 [(0, .ref t0)] := hl
  generalize hle : ([] : List Loc) = locs at hLo ⊢
  unfold f_Pas_goBack at heq
  refine lv_aload_n hx hb d_Pas_goBack_0 rfl (lv_at hl 0 rfl) ?_
  refine x_gA hc hR fl_Pas_7 heq d_Pas_goBack_1 (fun v1 heq => ?_)
  refine x_bV (mc := 0) (ms := 0) (st := []) hc hLo heq ⟨by omega, by omega⟩ (fun r9 h9 => x_runW hc (hw_goBack _ _ _ h9) hR wd_677 wd_670 (Or.inr ⟨_, _, _, wd_669, wd_694⟩) (by decide) hl.1 xl_goBack rfl (Nat.le_of_ble_eq_true rfl) d_Pas_goBack_4 ⟨by show FW + 0 + 1 ≤ _; omega, by show 8 + (10 + 11) + (LW + 0) ≤ _; omega⟩ ⟨by show 0 + 0 ≤ _; omega, by show 0 + 0 ≤ _; omega⟩) (fun h1 H locs hR hLo heq => ?_)
  refine lv_aload_n hx hb d_Pas_goBack_7 rfl (lv_at hl 0 rfl) ?_
  refine x_bV (mc := 0) (ms := 0) (st := []) hc hLo heq ⟨by omega, by omega⟩ (fun r9 h9 => x_runW hc (vk_recall hc.g _ _ _ h9) hR wd_678 wd_680 (Or.inl wd_679) (by decide) hl.1 xl_recall rfl (Nat.le_of_ble_eq_true rfl) d_Pas_goBack_8 ⟨by show 6 + 1 ≤ _; omega, by show 8 + (10 + 11) + (80) ≤ _; omega⟩ ⟨by show 0 + 0 ≤ _; omega, by show 0 + 0 ≤ _; omega⟩) (fun h2 H locs hR hLo heq => ?_)
  exact x_vret hc hR hLo ⟨by omega, by omega⟩ heq d_Pas_goBack_11
def f_Psh_init (t0 : Nat) (x1 : Nat) (x2 : Int32) (h0 : Hs_t) : Rs_t := bd_V (f_Str_init t0 h0) (fun h1 => (pt_V [4] 0 h1 t0 (.ref x1)).bind fun h2 => (nw_I 8 x2 h2).bind fun h3 => (pt_V [4] 1 h3 t0 (.ref h2.1)).bind fun h4 => re_V h4)
set_option maxRecDepth 100000 in
set_option maxHeartbeats 4000000 in
theorem c_Psh_init {l : Launch} {s0 : State} {A0 : Array Value} {G : Gx_t} (hG : G_0 l s0 A0 G) (rm : Room) (hrm : rm_Ok 1 8 2 32 rm) (t0 : Nat) (x1 : Nat) (x2 : Int32) (h0 : Hs_t) (r : Outcome × Hs_t) (heq : f_Psh_init t0 x1 x2 h0 = some r) : M_X G s0 l y_Psh_init (.code y_Psh_init b_Psh_init 3 none) rm [.ref t0, .ref x1, .int x2] h0 r := by
  refine M_X.of (by decide) hG (fun p e s m below meth c H hc hR => ?_)
  have hx := hc.x
  have hb := hc.b
  obtain ⟨hm1, hm2, hm3, hm4⟩ := id hrm
  have hLo : Lo_k s0 [] := fun _ hq => absurd hq List.not_mem_nil
  have hl := lv_entry ([.ref t0, .ref x1, .int x2]) (n := 3) (Nat.le_of_ble_eq_true rfl)
  rw [lg_entry_eq]
  generalize (lg_sl ([.ref t0, .ref x1, .int x2]) ++ List.replicate (3 - (lg_sl ([.ref t0, .ref x1, .int x2])).length) Slot.unset).toArray = ls at hl ⊢
  have hl : lv_has ls 3 [(0, .ref t0), (1, .ref x1), (2, .int x2)] := hl
  generalize hle : ([] : List Loc) = locs at hLo ⊢
  unfold f_Psh_init at heq
  refine lv_aload_n hx hb d_Psh_init_0 rfl (lv_at hl 0 rfl) ?_
  refine x_bV (mc := 0) (ms := 0) (st := []) hc hLo heq ⟨by omega, by omega⟩ (fun r9 h9 => x_runIN hc (c_Str_init hc.g rm_Str_init rk_Str_init _ _ _ h9) md_Str_init hR wd_347 wd_35 rfl ⟨_, rfl⟩ hl.1 ml_Str_init rfl (Nat.le_of_ble_eq_true rfl) d_Psh_init_1 ⟨by show 1 + 1 ≤ _; omega, by show 8 + (1 + 11) + (12) ≤ _; omega⟩ ⟨by show 0 + 0 ≤ _; omega, by show 0 + 0 ≤ _; omega⟩) (fun h1 H locs hR hLo heq => ?_)
  refine lv_aload_n hx hb d_Psh_init_4 rfl (lv_at hl 0 rfl) ?_
  refine lv_aload_n hx hb d_Psh_init_5 rfl (lv_at hl 1 rfl) ?_
  refine x_pV hc hR hLo fl_Psh_7 (Or.inr ⟨rfl, rfl⟩) rfl rfl heq d_Psh_init_6 (fun h2 H locs hR hLo heq => ?_)
  refine lv_aload_n hx hb d_Psh_init_9 rfl (lv_at hl 0 rfl) ?_
  refine lv_iload_n hx hb d_Psh_init_10 rfl (lv_at hl 2 rfl) ?_
  refine x_newI hc hR wd_55 (by decide) ⟨by omega, by omega⟩ heq d_Psh_init_11 (fun h3 H hR heq => ?_)
  refine x_pV hc hR hLo fl_Psh_13 (Or.inr ⟨rfl, rfl⟩) rfl rfl heq d_Psh_init_13 (fun h4 H locs hR hLo heq => ?_)
  exact x_vret hc hR hLo ⟨by omega, by omega⟩ heq d_Psh_init_16
def rm_Psh_init : Room := { frames := 2, cells := 1, slots := 8, locals := 32 }
theorem rk_Psh_init : rm_Ok 1 8 2 32 rm_Psh_init := ⟨Nat.le_refl _, Nat.le_refl _, Nat.le_refl _, Nat.le_refl _⟩
def f_Psh_putBack (t0 : Nat) (x1 : Int32) (h0 : Hs_t) : Rs_t := (fd_I [4] 2 h0 t0).bind fun v1 => (fd_A [4] 1 h0 t0).bind fun v2 => (ln_A h0 v2).bind fun v3 => if v1 < v3 then ((fd_A [4] 1 h0 t0).bind fun v4 => (fd_I [4] 2 h0 t0).bind fun v5 => (as_I h0 v4 v5 x1).bind fun h1 => (fd_I [4] 2 h1 t0).bind fun v6 => (pt_V [4] 2 h1 t0 (.int (v6 + 1))).bind fun h2 => re_Z 1 h2) else (re_Z 0 h0)
set_option maxRecDepth 100000 in
set_option maxHeartbeats 4000000 in
theorem c_Psh_putBack {l : Launch} {s0 : State} {A0 : Array Value} {G : Gx_t} (hG : G_0 l s0 A0 G) (rm : Room) (hrm : rm_Ok 0 0 0 0 rm) (t0 : Nat) (x1 : Int32) (h0 : Hs_t) (r : Outcome × Hs_t) (heq : f_Psh_putBack t0 x1 h0 = some r) : M_X G s0 l y_Psh_putBack (.code y_Psh_putBack b_Psh_putBack 2 (some .boolean)) rm [.ref t0, .int x1] h0 r := by
  refine M_X.of (by decide) hG (fun p e s m below meth c H hc hR => ?_)
  have hx := hc.x
  have hb := hc.b
  obtain ⟨hm1, hm2, hm3, hm4⟩ := id hrm
  have hLo : Lo_k s0 [] := fun _ hq => absurd hq List.not_mem_nil
  have hl := lv_entry ([.ref t0, .int x1]) (n := 2) (Nat.le_of_ble_eq_true rfl)
  rw [lg_entry_eq]
  generalize (lg_sl ([.ref t0, .int x1]) ++ List.replicate (2 - (lg_sl ([.ref t0, .int x1])).length) Slot.unset).toArray = ls at hl ⊢
  have hl : lv_has ls 2 [(0, .ref t0), (1, .int x1)] := hl
  generalize hle : ([] : List Loc) = locs at hLo ⊢
  unfold f_Psh_putBack at heq
  refine lv_aload_n hx hb d_Psh_putBack_0 rfl (lv_at hl 0 rfl) ?_
  refine x_gI hc hR fl_Psh_17 heq d_Psh_putBack_1 (fun v1 heq => ?_)
  refine lv_aload_n hx hb d_Psh_putBack_4 rfl (lv_at hl 0 rfl) ?_
  refine x_gA hc hR fl_Psh_13 heq d_Psh_putBack_5 (fun v2 heq => ?_)
  refine x_len hc hR heq d_Psh_putBack_8 (fun v3 heq => ?_)
  refine lv_icmp_lt (tgt := 14) hx hb d_Psh_putBack_9 rfl (fun hq => ?_) (fun hq => ?_)
  · rw [if_pos hq] at heq
    refine lv_aload_n hx hb d_Psh_putBack_14 rfl (lv_at hl 0 rfl) ?_
    refine x_gA hc hR fl_Psh_13 heq d_Psh_putBack_15 (fun v4 heq => ?_)
    refine lv_aload_n hx hb d_Psh_putBack_18 rfl (lv_at hl 0 rfl) ?_
    refine x_gI hc hR fl_Psh_17 heq d_Psh_putBack_19 (fun v5 heq => ?_)
    refine lv_iload_n hx hb d_Psh_putBack_22 rfl (lv_at hl 1 rfl) ?_
    refine x_sI hc hR hLo heq d_Psh_putBack_23 (fun h1 H locs hR hLo heq => ?_)
    refine lv_aload_n hx hb d_Psh_putBack_24 rfl (lv_at hl 0 rfl) ?_
    refine lv_dup hx hb d_Psh_putBack_25 rfl ?_
    refine x_gI hc hR fl_Psh_17 heq d_Psh_putBack_26 (fun v6 heq => ?_)
    refine lv_iconst (v := 1) hx hb d_Psh_putBack_29 (by decide) ?_
    refine lv_iadd hx hb d_Psh_putBack_30 ?_
    refine x_pV hc hR hLo fl_Psh_17 (Or.inl rfl) rfl rfl heq d_Psh_putBack_31 (fun h2 H locs hR hLo heq => ?_)
    refine lv_iconst (v := 1) hx hb d_Psh_putBack_34 (by decide) ?_
    exact x_zret hc hR hLo ⟨by omega, by omega⟩ heq d_Psh_putBack_35
  · rw [if_neg hq] at heq
    refine lv_iconst (v := 0) hx hb d_Psh_putBack_12 (by decide) ?_
    exact x_zret hc hR hLo ⟨by omega, by omega⟩ heq d_Psh_putBack_13
def rm_Psh_putBack : Room := { frames := 0, cells := 0, slots := 0, locals := 0 }
theorem rk_Psh_putBack : rm_Ok 0 0 0 0 rm_Psh_putBack := ⟨Nat.le_refl _, Nat.le_refl _, Nat.le_refl _, Nat.le_refl _⟩
def f_Psh_answer_b31 (w_answer : Nat → Int32 → Nat → Int32 → Hs_t → Rs_t) : Nat → Nat → Nat → Int32 → Int32 → Int32 → Hs_t → Rs_t
  | 0, _, _, _, _, _, _ => none
  | n + 1, t0, x2, x3, x4, x5, h0 => if x4 ≤ x5 then (re_I x4 h0) else ((fd_I [4] 2 h0 t0).bind fun v5 => (pt_V [4] 2 h0 t0 (.int (v5 - 1))).bind fun h2 => (fd_A [4] 1 h2 t0).bind fun v6 => (fd_I [4] 2 h2 t0).bind fun v7 => (ar_I h2 v6 v7).bind fun v8 => (as_I h2 x2 (x3 + x5) v8).bind fun h3 => (f_Psh_answer_b31 w_answer n) t0 x2 x3 x4 (x5 + 1) h3)
def f_Psh_answer (w_answer : Nat → Int32 → Nat → Int32 → Hs_t → Rs_t) (t0 : Nat) (x1 : Int32) (x2 : Nat) (x3 : Int32) (h0 : Hs_t) : Rs_t := (fd_I [4] 2 h0 t0).bind fun v1 => if v1 = 0 then ((fd_A [4] 0 h0 t0).bind fun v3 => bd_I (w_answer v3 x1 x2 x3 h0) (fun v4 h1 => re_I v4 h1)) else ((fd_I [4] 2 h0 t0).bind fun v2 => f_Psh_answer_b31 w_answer fu_N t0 x2 x3 (if v2 < x1 then v2 else x1) 0 h0)
set_option maxRecDepth 100000 in
set_option maxHeartbeats 4000000 in
theorem k_Psh_answer_b31 {p : Program} {l : Launch} {e : Env} {s : State} {m : MethodId} {args : Array Value} {below : List Frame} {meth : Method} {c : Code} {s0 : State} {A0 : Array Value} {G : Gx_t} {r : Outcome × Hs_t} {rm : Room} (FW LW : Nat) (w_answer : Nat → Int32 → Nat → Int32 → Hs_t → Rs_t) (hc : Cx_t p s m meth c s0 A0 l G y_Psh_answer b_Psh_answer 6 (some .int) []) (hrm : rm_Ok 0 0 (FW + 1) (LW + 29) rm) (hw_answer : ∀ (a : Nat) (x1 : Int32) (x2 : Nat) (x3 : Int32) (h : Hs_t) (r0 : Outcome × Hs_t), w_answer a x1 x2 x3 h = some r0 → V_X G s0 l xn_answer { frames := FW, cells := 0, slots := 0, locals := LW } a [.int x1, .ref x2, .int x3] h r0) : ∀ (n : Nat) (t0 : Nat) (x2 : Nat) (x3 : Int32) (x4 : Int32) (x5 : Int32) (h0 : Hs_t) (H : Heap) (locs : List Loc) (ls : Array Slot), Rp_h G s0.heap h0 H → Lo_k s0 locs → lv_has ls 6 [(0, .ref t0), (2, .ref x2), (3, .int x3), (4, .int x4), (5, .int x5)] → f_Psh_answer_b31 w_answer n t0 x2 x3 x4 x5 h0 = some r → W p l e rm s m args below meth c H locs 0 0 (xq_MQ G s0 below r s rm.cells rm.slots) (F0 m 31 ls []) := by
  have hx := hc.x
  have hb := hc.b
  obtain ⟨hm1, hm2, hm3, hm4⟩ := id hrm
  intro n
  induction n with
  | zero =>
    intro t0 x2 x3 x4 x5 h0 H locs ls hR hLo hl heq
    unfold f_Psh_answer_b31 at heq
    cases heq
  | succ n hr31 =>
    intro t0 x2 x3 x4 x5 h0 H locs ls hR hLo hl heq
    unfold f_Psh_answer_b31 at heq
    refine lv_iload hx hb d_Psh_answer_31 (lv_at hl 4 rfl) ?_
    refine lv_iload hx hb d_Psh_answer_33 (lv_at hl 3 rfl) ?_
    refine lv_icmp_ge (tgt := 69) hx hb d_Psh_answer_35 rfl (fun hq => ?_) (fun hq => ?_)
    · rw [if_pos hq] at heq
      refine lv_iload hx hb d_Psh_answer_69 (lv_at hl 3 rfl) ?_
      exact x_iret hc hR hLo ⟨by omega, by omega⟩ heq d_Psh_answer_71
    · rw [if_neg hq] at heq
      refine lv_aload_n hx hb d_Psh_answer_38 rfl (lv_at hl 0 rfl) ?_
      refine lv_dup hx hb d_Psh_answer_39 rfl ?_
      refine x_gI hc hR fl_Psh_17 heq d_Psh_answer_40 (fun v5 heq => ?_)
      refine lv_iconst (v := 1) hx hb d_Psh_answer_43 (by decide) ?_
      refine lv_isub hx hb d_Psh_answer_44 ?_
      refine x_pV hc hR hLo fl_Psh_17 (Or.inl rfl) rfl rfl heq d_Psh_answer_45 (fun h2 H locs hR hLo heq => ?_)
      refine lv_aload_n hx hb d_Psh_answer_48 rfl (lv_at hl 1 rfl) ?_
      refine lv_iload_n hx hb d_Psh_answer_49 rfl (lv_at hl 2 rfl) ?_
      refine lv_iload hx hb d_Psh_answer_50 (lv_at hl 4 rfl) ?_
      refine lv_iadd hx hb d_Psh_answer_52 ?_
      refine lv_aload_n hx hb d_Psh_answer_53 rfl (lv_at hl 0 rfl) ?_
      refine x_gA hc hR fl_Psh_13 heq d_Psh_answer_54 (fun v6 heq => ?_)
      refine lv_aload_n hx hb d_Psh_answer_57 rfl (lv_at hl 0 rfl) ?_
      refine x_gI hc hR fl_Psh_17 heq d_Psh_answer_58 (fun v7 heq => ?_)
      refine x_aI hc hR heq d_Psh_answer_61 (fun v8 heq => ?_)
      refine x_sI hc hR hLo heq d_Psh_answer_62 (fun h3 H locs hR hLo heq => ?_)
      refine lv_iinc (k := 4) (v := (x5 + 1)) (lv' := [(5, .int (x5 + 1)), (0, .ref t0), (2, .ref x2), (3, .int x3), (4, .int x4)]) hx hb d_Psh_answer_63 hl rfl rfl (by decide) rfl (fun ls hl => ?_)
      refine lv_goto (tgt := 31) hx hb d_Psh_answer_66 rfl ?_
      refine W.widen (k := 0) (n := 0) (by omega) (by omega) ?_
      exact hr31 t0 x2 x3 x4 (x5 + 1) h3 H locs ls hR hLo (lv_sub hl [1, 2, 3, 4, 0] rfl) heq
set_option maxRecDepth 100000 in
set_option maxHeartbeats 4000000 in
theorem c_Psh_answer {l : Launch} {s0 : State} {A0 : Array Value} {G : Gx_t} (hG : G_0 l s0 A0 G) (FW LW : Nat) (w_answer : Nat → Int32 → Nat → Int32 → Hs_t → Rs_t) (rm : Room) (hrm : rm_Ok 0 0 (FW + 1) (LW + 29) rm) (hw_answer : ∀ (a : Nat) (x1 : Int32) (x2 : Nat) (x3 : Int32) (h : Hs_t) (r0 : Outcome × Hs_t), w_answer a x1 x2 x3 h = some r0 → V_X G s0 l xn_answer { frames := FW, cells := 0, slots := 0, locals := LW } a [.int x1, .ref x2, .int x3] h r0) (t0 : Nat) (x1 : Int32) (x2 : Nat) (x3 : Int32) (h0 : Hs_t) (r : Outcome × Hs_t) (heq : f_Psh_answer w_answer t0 x1 x2 x3 h0 = some r) : M_X G s0 l y_Psh_answer (.code y_Psh_answer b_Psh_answer 6 (some .int)) rm [.ref t0, .int x1, .ref x2, .int x3] h0 r := by
  refine M_X.of (by decide) hG (fun p e s m below meth c H hc hR => ?_)
  have hx := hc.x
  have hb := hc.b
  obtain ⟨hm1, hm2, hm3, hm4⟩ := id hrm
  have hLo : Lo_k s0 [] := fun _ hq => absurd hq List.not_mem_nil
  have hl := lv_entry ([.ref t0, .int x1, .ref x2, .int x3]) (n := 6) (Nat.le_of_ble_eq_true rfl)
  rw [lg_entry_eq]
  generalize (lg_sl ([.ref t0, .int x1, .ref x2, .int x3]) ++ List.replicate (6 - (lg_sl ([.ref t0, .int x1, .ref x2, .int x3])).length) Slot.unset).toArray = ls at hl ⊢
  have hl : lv_has ls 6 [(0, .ref t0), (1, .int x1), (2, .ref x2), (3, .int x3)] := hl
  generalize hle : ([] : List Loc) = locs at hLo ⊢
  unfold f_Psh_answer at heq
  refine lv_aload_n hx hb d_Psh_answer_0 rfl (lv_at hl 0 rfl) ?_
  refine x_gI hc hR fl_Psh_17 heq d_Psh_answer_1 (fun v1 heq => ?_)
  refine lv_if_ne (tgt := 18) hx hb d_Psh_answer_4 rfl (fun hq => ?_) (fun hq => ?_)
  · rw [if_neg hq] at heq
    refine lv_iload_n hx hb d_Psh_answer_18 rfl (lv_at hl 1 rfl) ?_
    refine lv_aload_n hx hb d_Psh_answer_19 rfl (lv_at hl 0 rfl) ?_
    refine x_gI hc hR fl_Psh_17 heq d_Psh_answer_20 (fun v2 heq => ?_)
    refine x_min hc hl.1 wd_469 wd_147 wd_17 wd_148 (by omega) (by show 0 + 13 ≤ _; omega) ⟨by omega, by omega⟩ d_Psh_answer_23 ?_
    refine lv_istore (lv' := [(4, .int (if v2 < x1 then v2 else x1)), (0, .ref t0), (1, .int x1), (2, .ref x2), (3, .int x3)]) hx hb d_Psh_answer_26 hl (by decide) rfl (fun ls hl => ?_)
    refine lv_iconst (v := 0) hx hb d_Psh_answer_28 (by decide) ?_
    refine lv_istore (lv' := [(5, .int 0), (4, .int (if v2 < x1 then v2 else x1)), (0, .ref t0), (1, .int x1), (2, .ref x2), (3, .int x3)]) hx hb d_Psh_answer_29 hl (by decide) rfl (fun ls hl => ?_)
    refine W.widen (k := 0) (n := 0) (by omega) (by omega) ?_
    exact k_Psh_answer_b31 FW LW w_answer hc hrm hw_answer fu_N t0 x2 x3 (if v2 < x1 then v2 else x1) 0 h0 H locs ls hR hLo (lv_sub hl [2, 4, 5, 1, 0] rfl) heq
  · rw [if_pos hq] at heq
    refine lv_aload_n hx hb d_Psh_answer_7 rfl (lv_at hl 0 rfl) ?_
    refine x_gA hc hR fl_Psh_7 heq d_Psh_answer_8 (fun v3 heq => ?_)
    refine lv_iload_n hx hb d_Psh_answer_11 rfl (lv_at hl 1 rfl) ?_
    refine lv_aload_n hx hb d_Psh_answer_12 rfl (lv_at hl 2 rfl) ?_
    refine lv_iload_n hx hb d_Psh_answer_13 rfl (lv_at hl 3 rfl) ?_
    refine x_bI (mc := 0) (ms := 0) (st := []) hc hLo heq ⟨by omega, by omega⟩ (fun r9 h9 => x_runW hc (hw_answer _ _ _ _ _ _ h9) hR wd_461 wd_445 (Or.inl wd_444) (by decide) hl.1 xl_answer rfl (Nat.le_of_ble_eq_true rfl) d_Psh_answer_14 ⟨by show FW + 0 + 1 ≤ _; omega, by show 8 + (10 + 11) + (LW + 0) ≤ _; omega⟩ ⟨by show 0 + 0 ≤ _; omega, by show 0 + 0 ≤ _; omega⟩) (fun v4 h1 H locs hR hLo heq => ?_)
    exact x_iret hc hR hLo ⟨by omega, by omega⟩ heq d_Psh_answer_17
def f_Psh_ready (w_ready : Nat → Hs_t → Rs_t) (t0 : Nat) (h0 : Hs_t) : Rs_t := (fd_I [4] 2 h0 t0).bind fun v1 => (fd_A [4] 0 h0 t0).bind fun v2 => bd_I (w_ready v2 h0) (fun v3 h1 => re_I (v1 + v3) h1)
set_option maxRecDepth 100000 in
set_option maxHeartbeats 4000000 in
theorem c_Psh_ready {l : Launch} {s0 : State} {A0 : Array Value} {G : Gx_t} (hG : G_0 l s0 A0 G) (FW LW : Nat) (w_ready : Nat → Hs_t → Rs_t) (rm : Room) (hrm : rm_Ok 0 0 (FW + 1) (LW + 29) rm) (hw_ready : ∀ (a : Nat) (h : Hs_t) (r0 : Outcome × Hs_t), w_ready a h = some r0 → V_X G s0 l xn_ready { frames := FW, cells := 0, slots := 0, locals := LW } a [] h r0) (t0 : Nat) (h0 : Hs_t) (r : Outcome × Hs_t) (heq : f_Psh_ready w_ready t0 h0 = some r) : M_X G s0 l y_Psh_ready (.code y_Psh_ready b_Psh_ready 1 (some .int)) rm [.ref t0] h0 r := by
  refine M_X.of (by decide) hG (fun p e s m below meth c H hc hR => ?_)
  have hx := hc.x
  have hb := hc.b
  obtain ⟨hm1, hm2, hm3, hm4⟩ := id hrm
  have hLo : Lo_k s0 [] := fun _ hq => absurd hq List.not_mem_nil
  have hl := lv_entry ([.ref t0]) (n := 1) (Nat.le_of_ble_eq_true rfl)
  rw [lg_entry_eq]
  generalize (lg_sl ([.ref t0]) ++ List.replicate (1 - (lg_sl ([.ref t0])).length) Slot.unset).toArray = ls at hl ⊢
  have hl : lv_has ls 1 [(0, .ref t0)] := hl
  generalize hle : ([] : List Loc) = locs at hLo ⊢
  unfold f_Psh_ready at heq
  refine lv_aload_n hx hb d_Psh_ready_0 rfl (lv_at hl 0 rfl) ?_
  refine x_gI hc hR fl_Psh_17 heq d_Psh_ready_1 (fun v1 heq => ?_)
  refine lv_aload_n hx hb d_Psh_ready_4 rfl (lv_at hl 0 rfl) ?_
  refine x_gA hc hR fl_Psh_7 heq d_Psh_ready_5 (fun v2 heq => ?_)
  refine x_bI (mc := 0) (ms := 0) (st := [.int v1]) hc hLo heq ⟨by omega, by omega⟩ (fun r9 h9 => x_runW hc (hw_ready _ _ _ h9) hR wd_143 wd_130 (Or.inl wd_129) (by decide) hl.1 xl_ready rfl (Nat.le_of_ble_eq_true rfl) d_Psh_ready_8 ⟨by show FW + 0 + 1 ≤ _; omega, by show 8 + (10 + 11) + (LW + 0) ≤ _; omega⟩ ⟨by show 0 + 0 ≤ _; omega, by show 0 + 0 ≤ _; omega⟩) (fun v3 h1 H locs hR hLo heq => ?_)
  refine lv_iadd hx hb d_Psh_ready_11 ?_
  exact x_iret hc hR hLo ⟨by omega, by omega⟩ heq d_Psh_ready_12
def f_Psh_state (t0 : Nat) (h0 : Hs_t) : Rs_t := (fd_I [4] 2 h0 t0).bind fun v1 => re_I v1 h0
set_option maxRecDepth 100000 in
set_option maxHeartbeats 4000000 in
theorem c_Psh_state {l : Launch} {s0 : State} {A0 : Array Value} {G : Gx_t} (hG : G_0 l s0 A0 G) (rm : Room) (hrm : rm_Ok 0 0 0 0 rm) (t0 : Nat) (h0 : Hs_t) (r : Outcome × Hs_t) (heq : f_Psh_state t0 h0 = some r) : M_X G s0 l y_Psh_state (.code y_Psh_state b_Psh_state 1 (some .int)) rm [.ref t0] h0 r := by
  refine M_X.of (by decide) hG (fun p e s m below meth c H hc hR => ?_)
  have hx := hc.x
  have hb := hc.b
  obtain ⟨hm1, hm2, hm3, hm4⟩ := id hrm
  have hLo : Lo_k s0 [] := fun _ hq => absurd hq List.not_mem_nil
  have hl := lv_entry ([.ref t0]) (n := 1) (Nat.le_of_ble_eq_true rfl)
  rw [lg_entry_eq]
  generalize (lg_sl ([.ref t0]) ++ List.replicate (1 - (lg_sl ([.ref t0])).length) Slot.unset).toArray = ls at hl ⊢
  have hl : lv_has ls 1 [(0, .ref t0)] := hl
  generalize hle : ([] : List Loc) = locs at hLo ⊢
  unfold f_Psh_state at heq
  refine lv_aload_n hx hb d_Psh_state_0 rfl (lv_at hl 0 rfl) ?_
  refine x_gI hc hR fl_Psh_17 heq d_Psh_state_1 (fun v1 heq => ?_)
  exact x_iret hc hR hLo ⟨by omega, by omega⟩ heq d_Psh_state_4
def rm_Psh_state : Room := { frames := 0, cells := 0, slots := 0, locals := 0 }
theorem rk_Psh_state : rm_Ok 0 0 0 0 rm_Psh_state := ⟨Nat.le_refl _, Nat.le_refl _, Nat.le_refl _, Nat.le_refl _⟩
def v_answer : Nat → Nat → Int32 → Nat → Int32 → Hs_t → Rs_t
  | 0, _, _, _, _, _ => none
  | d + 1, a, x1, x2, x3, h => match tg_O h a with
    | some t => if t = 2 then f_Src_answer a x1 x2 x3 h else (if t = 3 then f_Buf_answer (v_answer d) a x1 x2 x3 h else (if t = 4 then f_Psh_answer (v_answer d) a x1 x2 x3 h else (if t = 5 then f_Lim_answer (v_answer d) a x1 x2 x3 h else (if t = 6 then f_Cod_answer (v_answer d) a x1 x2 x3 h else (if t = 7 then f_Lin_answer (v_answer d) a x1 x2 x3 h else (none))))))
    | none => none
set_option maxHeartbeats 4000000 in
theorem vk_answer {l : Launch} {s0 : State} {A0 : Array Value} {G : Gx_t} (hG : G_0 l s0 A0 G) : ∀ (d a : Nat) (x1 : Int32) (x2 : Nat) (x3 : Int32) (h : Hs_t) (r0 : Outcome × Hs_t), v_answer d a x1 x2 x3 h = some r0 → V_X G s0 l xn_answer { frames := 10 * d + 10, cells := 0, slots := 0, locals := 200 * d + 200 } a [.int x1, .ref x2, .int x3] h r0 := by
  intro d
  induction d with
  | zero =>
    intro a x1 x2 x3 h r0 heq
    unfold v_answer at heq
    cases heq
  | succ d ih =>
    intro a x1 x2 x3 h r0 heq
    unfold v_answer at heq
    cases ht : tg_O h a with
    | none => simp [ht] at heq
    | some t =>
      simp only [ht] at heq
      obtain ⟨fs, hx⟩ := tg_O_spec ht
      by_cases h2 : t = 2
      · subst h2
        rw [if_pos rfl] at heq
        exact ⟨2, _, fs, _, _, y_Src_answer, _, 5, hx, rfl, ⟨md_Src_answer, wd_462, wd_488⟩, by decide, c_Src_answer hG _ ⟨Nat.le_refl _, Nat.le_refl _, by show 1 ≤ 10 * (d + 1) + 10; omega, by show 40 ≤ 200 * (d + 1) + 200; omega⟩ _ _ _ _ _ _ heq⟩
      rw [if_neg h2] at heq
      by_cases h3 : t = 3
      · subst h3
        rw [if_pos rfl] at heq
        exact ⟨3, _, fs, _, _, y_Buf_answer, _, 5, hx, rfl, ⟨md_Buf_answer, wd_447, wd_446⟩, by decide, c_Buf_answer hG (10 * d + 10) (200 * d + 200) (v_answer d) _ ⟨Nat.le_refl _, Nat.le_refl _, by show 10 * d + 10 + 2 ≤ 10 * (d + 1) + 10; omega, by show 200 * d + 200 + 61 ≤ 200 * (d + 1) + 200; omega⟩ ih _ _ _ _ _ _ heq⟩
      rw [if_neg h3] at heq
      by_cases h4 : t = 4
      · subst h4
        rw [if_pos rfl] at heq
        exact ⟨4, _, fs, _, _, y_Psh_answer, _, 6, hx, rfl, ⟨md_Psh_answer, wd_459, wd_487⟩, by decide, c_Psh_answer hG (10 * d + 10) (200 * d + 200) (v_answer d) _ ⟨Nat.le_refl _, Nat.le_refl _, by show 10 * d + 10 + 1 ≤ 10 * (d + 1) + 10; omega, by show 200 * d + 200 + 29 ≤ 200 * (d + 1) + 200; omega⟩ ih _ _ _ _ _ _ heq⟩
      rw [if_neg h4] at heq
      by_cases h5 : t = 5
      · subst h5
        rw [if_pos rfl] at heq
        exact ⟨5, _, fs, _, _, y_Lim_answer, _, 5, hx, rfl, ⟨md_Lim_answer, wd_453, wd_485⟩, by decide, c_Lim_answer hG (10 * d + 10) (200 * d + 200) (v_answer d) _ ⟨Nat.le_refl _, Nat.le_refl _, by show 10 * d + 10 + 1 ≤ 10 * (d + 1) + 10; omega, by show 200 * d + 200 + 29 ≤ 200 * (d + 1) + 200; omega⟩ ih _ _ _ _ _ _ heq⟩
      rw [if_neg h5] at heq
      by_cases h6 : t = 6
      · subst h6
        rw [if_pos rfl] at heq
        exact ⟨6, _, fs, _, _, y_Cod_answer, _, 6, hx, rfl, ⟨md_Cod_answer, wd_450, wd_484⟩, by decide, c_Cod_answer hG (10 * d + 10) (200 * d + 200) (v_answer d) _ ⟨Nat.le_refl _, Nat.le_refl _, by show 10 * d + 10 + 1 ≤ 10 * (d + 1) + 10; omega, by show 200 * d + 200 + 29 ≤ 200 * (d + 1) + 200; omega⟩ ih _ _ _ _ _ _ heq⟩
      rw [if_neg h6] at heq
      by_cases h7 : t = 7
      · subst h7
        rw [if_pos rfl] at heq
        exact ⟨7, _, fs, _, _, y_Lin_answer, _, 6, hx, rfl, ⟨md_Lin_answer, wd_456, wd_486⟩, by decide, c_Lin_answer hG (10 * d + 10) (200 * d + 200) (v_answer d) _ ⟨Nat.le_refl _, Nat.le_refl _, by show 10 * d + 10 + 1 ≤ 10 * (d + 1) + 10; omega, by show 200 * d + 200 + 29 ≤ 200 * (d + 1) + 200; omega⟩ ih _ _ _ _ _ _ heq⟩
      rw [if_neg h7] at heq
      cases heq
def v_ready : Nat → Nat → Hs_t → Rs_t
  | 0, _, _ => none
  | d + 1, a, h => match tg_O h a with
    | some t => if t = 2 then f_Src_ready a h else (if t = 3 then f_Buf_ready (v_ready d) a h else (if t = 4 then f_Psh_ready (v_ready d) a h else (if t = 5 then f_Lim_ready (v_ready d) a h else (if t = 6 then f_Pas_ready (v_ready d) a h else (if t = 7 then f_Pas_ready (v_ready d) a h else (none))))))
    | none => none
set_option maxHeartbeats 4000000 in
theorem vk_ready {l : Launch} {s0 : State} {A0 : Array Value} {G : Gx_t} (hG : G_0 l s0 A0 G) : ∀ (d a : Nat) (h : Hs_t) (r0 : Outcome × Hs_t), v_ready d a h = some r0 → V_X G s0 l xn_ready { frames := 10 * d + 10, cells := 0, slots := 0, locals := 200 * d + 200 } a [] h r0 := by
  intro d
  induction d with
  | zero =>
    intro a h r0 heq
    unfold v_ready at heq
    cases heq
  | succ d ih =>
    intro a h r0 heq
    unfold v_ready at heq
    cases ht : tg_O h a with
    | none => simp [ht] at heq
    | some t =>
      simp only [ht] at heq
      obtain ⟨fs, hx⟩ := tg_O_spec ht
      by_cases h2 : t = 2
      · subst h2
        rw [if_pos rfl] at heq
        exact ⟨2, _, fs, _, _, y_Src_ready, _, 2, hx, rfl, ⟨md_Src_ready, wd_144, wd_153⟩, by decide, c_Src_ready hG _ ⟨Nat.le_refl _, Nat.le_refl _, by show 0 ≤ 10 * (d + 1) + 10; omega, by show 0 ≤ 200 * (d + 1) + 200; omega⟩ _ _ _ heq⟩
      rw [if_neg h2] at heq
      by_cases h3 : t = 3
      · subst h3
        rw [if_pos rfl] at heq
        exact ⟨3, _, fs, _, _, y_Buf_ready, _, 1, hx, rfl, ⟨md_Buf_ready, wd_132, wd_131⟩, by decide, c_Buf_ready hG (10 * d + 10) (200 * d + 200) (v_ready d) _ ⟨Nat.le_refl _, Nat.le_refl _, by show 10 * d + 10 + 1 ≤ 10 * (d + 1) + 10; omega, by show 200 * d + 200 + 29 ≤ 200 * (d + 1) + 200; omega⟩ ih _ _ _ heq⟩
      rw [if_neg h3] at heq
      by_cases h4 : t = 4
      · subst h4
        rw [if_pos rfl] at heq
        exact ⟨4, _, fs, _, _, y_Psh_ready, _, 1, hx, rfl, ⟨md_Psh_ready, wd_141, wd_152⟩, by decide, c_Psh_ready hG (10 * d + 10) (200 * d + 200) (v_ready d) _ ⟨Nat.le_refl _, Nat.le_refl _, by show 10 * d + 10 + 1 ≤ 10 * (d + 1) + 10; omega, by show 200 * d + 200 + 29 ≤ 200 * (d + 1) + 200; omega⟩ ih _ _ _ heq⟩
      rw [if_neg h4] at heq
      by_cases h5 : t = 5
      · subst h5
        rw [if_pos rfl] at heq
        exact ⟨5, _, fs, _, _, y_Lim_ready, _, 1, hx, rfl, ⟨md_Lim_ready, wd_138, wd_150⟩, by decide, c_Lim_ready hG (10 * d + 10) (200 * d + 200) (v_ready d) _ ⟨Nat.le_refl _, Nat.le_refl _, by show 10 * d + 10 + 1 ≤ 10 * (d + 1) + 10; omega, by show 200 * d + 200 + 29 ≤ 200 * (d + 1) + 200; omega⟩ ih _ _ _ heq⟩
      rw [if_neg h5] at heq
      by_cases h6 : t = 6
      · subst h6
        rw [if_pos rfl] at heq
        exact ⟨6, _, fs, _, _, y_Pas_ready, _, 1, hx, rfl, ⟨md_Pas_ready, wd_135, wd_149⟩, by decide, c_Pas_ready hG (10 * d + 10) (200 * d + 200) (v_ready d) _ ⟨Nat.le_refl _, Nat.le_refl _, by show 10 * d + 10 + 1 ≤ 10 * (d + 1) + 10; omega, by show 200 * d + 200 + 29 ≤ 200 * (d + 1) + 200; omega⟩ ih _ _ _ heq⟩
      rw [if_neg h6] at heq
      by_cases h7 : t = 7
      · subst h7
        rw [if_pos rfl] at heq
        exact ⟨7, _, fs, _, _, y_Pas_ready, _, 1, hx, rfl, ⟨md_Pas_ready, wd_135, wd_151⟩, by decide, c_Pas_ready hG (10 * d + 10) (200 * d + 200) (v_ready d) _ ⟨Nat.le_refl _, Nat.le_refl _, by show 10 * d + 10 + 1 ≤ 10 * (d + 1) + 10; omega, by show 200 * d + 200 + 29 ≤ 200 * (d + 1) + 200; omega⟩ ih _ _ _ heq⟩
      rw [if_neg h7] at heq
      cases heq
def v_state (a : Nat) (h : Hs_t) : Rs_t := match tg_O h a with
    | some t => if t = 2 then f_Src_state a h else (if t = 3 then f_Buf_state a h else (if t = 4 then f_Psh_state a h else (if t = 5 then f_Lim_state a h else (if t = 6 then f_Cod_state a h else (if t = 7 then f_Lin_state a h else (none))))))
    | none => none
set_option maxHeartbeats 4000000 in
theorem vk_state {l : Launch} {s0 : State} {A0 : Array Value} {G : Gx_t} (hG : G_0 l s0 A0 G) (a : Nat) (h : Hs_t) (r0 : Outcome × Hs_t) (heq : v_state a h = some r0) : V_X G s0 l xn_state { frames := 80, cells := 0, slots := 0, locals := 1600 } a [] h r0 := by
  unfold v_state at heq
  cases ht : tg_O h a with
  | none => simp [ht] at heq
  | some t =>
    simp only [ht] at heq
    obtain ⟨fs, hx⟩ := tg_O_spec ht
    by_cases h2 : t = 2
    · subst h2
      rw [if_pos rfl] at heq
      exact ⟨2, _, fs, _, _, y_Src_state, _, 1, hx, rfl, ⟨md_Src_state, wd_163, wd_184⟩, by decide, c_Src_state hG _ ⟨Nat.le_refl _, Nat.le_refl _, by show 0 ≤ 80; omega, by show 0 ≤ 1600; omega⟩ _ _ _ heq⟩
    rw [if_neg h2] at heq
    by_cases h3 : t = 3
    · subst h3
      rw [if_pos rfl] at heq
      exact ⟨3, _, fs, _, _, y_Buf_state, _, 1, hx, rfl, ⟨md_Buf_state, wd_170, wd_169⟩, by decide, c_Buf_state hG _ ⟨Nat.le_refl _, Nat.le_refl _, by show 0 ≤ 80; omega, by show 0 ≤ 1600; omega⟩ _ _ _ heq⟩
    rw [if_neg h3] at heq
    by_cases h4 : t = 4
    · subst h4
      rw [if_pos rfl] at heq
      exact ⟨4, _, fs, _, _, y_Psh_state, _, 1, hx, rfl, ⟨md_Psh_state, wd_182, wd_181⟩, by decide, c_Psh_state hG _ ⟨Nat.le_refl _, Nat.le_refl _, by show 0 ≤ 80; omega, by show 0 ≤ 1600; omega⟩ _ _ _ heq⟩
    rw [if_neg h4] at heq
    by_cases h5 : t = 5
    · subst h5
      rw [if_pos rfl] at heq
      exact ⟨5, _, fs, _, _, y_Lim_state, _, 1, hx, rfl, ⟨md_Lim_state, wd_176, wd_175⟩, by decide, c_Lim_state hG _ ⟨Nat.le_refl _, Nat.le_refl _, by show 0 ≤ 80; omega, by show 0 ≤ 1600; omega⟩ _ _ _ heq⟩
    rw [if_neg h5] at heq
    by_cases h6 : t = 6
    · subst h6
      rw [if_pos rfl] at heq
      exact ⟨6, _, fs, _, _, y_Cod_state, _, 1, hx, rfl, ⟨md_Cod_state, wd_173, wd_172⟩, by decide, c_Cod_state hG _ ⟨Nat.le_refl _, Nat.le_refl _, by show 0 ≤ 80; omega, by show 0 ≤ 1600; omega⟩ _ _ _ heq⟩
    rw [if_neg h6] at heq
    by_cases h7 : t = 7
    · subst h7
      rw [if_pos rfl] at heq
      exact ⟨7, _, fs, _, _, y_Lin_state, _, 1, hx, rfl, ⟨md_Lin_state, wd_179, wd_178⟩, by decide, c_Lin_state hG _ ⟨Nat.le_refl _, Nat.le_refl _, by show 0 ≤ 80; omega, by show 0 ≤ 1600; omega⟩ _ _ _ heq⟩
    rw [if_neg h7] at heq
    cases heq
def v_canBeMarked : Nat → Nat → Hs_t → Rs_t
  | 0, _, _ => none
  | d + 1, a, h => match tg_O h a with
    | some t => if t = 2 then f_Str_canBeMarked a h else (if t = 3 then f_Buf_canBeMarked a h else (if t = 4 then f_Str_canBeMarked a h else (if t = 5 then f_Pas_canBeMarked (v_canBeMarked d) a h else (if t = 6 then f_Pas_canBeMarked (v_canBeMarked d) a h else (if t = 7 then f_Pas_canBeMarked (v_canBeMarked d) a h else (none))))))
    | none => none
set_option maxHeartbeats 4000000 in
theorem vk_canBeMarked {l : Launch} {s0 : State} {A0 : Array Value} {G : Gx_t} (hG : G_0 l s0 A0 G) : ∀ (d a : Nat) (h : Hs_t) (r0 : Outcome × Hs_t), v_canBeMarked d a h = some r0 → V_X G s0 l xn_canBeMarked { frames := 10 * d + 10, cells := 0, slots := 0, locals := 200 * d + 200 } a [] h r0 := by
  intro d
  induction d with
  | zero =>
    intro a h r0 heq
    unfold v_canBeMarked at heq
    cases heq
  | succ d ih =>
    intro a h r0 heq
    unfold v_canBeMarked at heq
    cases ht : tg_O h a with
    | none => simp [ht] at heq
    | some t =>
      simp only [ht] at heq
      obtain ⟨fs, hx⟩ := tg_O_spec ht
      by_cases h2 : t = 2
      · subst h2
        rw [if_pos rfl] at heq
        exact ⟨2, _, fs, _, _, y_Str_canBeMarked, _, 1, hx, rfl, ⟨md_Str_canBeMarked, wd_590, wd_602⟩, by decide, c_Str_canBeMarked hG _ ⟨Nat.le_refl _, Nat.le_refl _, by show 0 ≤ 10 * (d + 1) + 10; omega, by show 0 ≤ 200 * (d + 1) + 200; omega⟩ _ _ _ heq⟩
      rw [if_neg h2] at heq
      by_cases h3 : t = 3
      · subst h3
        rw [if_pos rfl] at heq
        exact ⟨3, _, fs, _, _, y_Buf_canBeMarked, _, 1, hx, rfl, ⟨md_Buf_canBeMarked, wd_593, wd_592⟩, by decide, c_Buf_canBeMarked hG _ ⟨Nat.le_refl _, Nat.le_refl _, by show 0 ≤ 10 * (d + 1) + 10; omega, by show 0 ≤ 200 * (d + 1) + 200; omega⟩ _ _ _ heq⟩
      rw [if_neg h3] at heq
      by_cases h4 : t = 4
      · subst h4
        rw [if_pos rfl] at heq
        exact ⟨4, _, fs, _, _, y_Str_canBeMarked, _, 1, hx, rfl, ⟨md_Str_canBeMarked, wd_590, wd_601⟩, by decide, c_Str_canBeMarked hG _ ⟨Nat.le_refl _, Nat.le_refl _, by show 0 ≤ 10 * (d + 1) + 10; omega, by show 0 ≤ 200 * (d + 1) + 200; omega⟩ _ _ _ heq⟩
      rw [if_neg h4] at heq
      by_cases h5 : t = 5
      · subst h5
        rw [if_pos rfl] at heq
        exact ⟨5, _, fs, _, _, y_Pas_canBeMarked, _, 1, hx, rfl, ⟨md_Pas_canBeMarked, wd_596, wd_599⟩, by decide, c_Pas_canBeMarked hG (10 * d + 10) (200 * d + 200) (v_canBeMarked d) _ ⟨Nat.le_refl _, Nat.le_refl _, by show 10 * d + 10 + 1 ≤ 10 * (d + 1) + 10; omega, by show 200 * d + 200 + 29 ≤ 200 * (d + 1) + 200; omega⟩ ih _ _ _ heq⟩
      rw [if_neg h5] at heq
      by_cases h6 : t = 6
      · subst h6
        rw [if_pos rfl] at heq
        exact ⟨6, _, fs, _, _, y_Pas_canBeMarked, _, 1, hx, rfl, ⟨md_Pas_canBeMarked, wd_596, wd_595⟩, by decide, c_Pas_canBeMarked hG (10 * d + 10) (200 * d + 200) (v_canBeMarked d) _ ⟨Nat.le_refl _, Nat.le_refl _, by show 10 * d + 10 + 1 ≤ 10 * (d + 1) + 10; omega, by show 200 * d + 200 + 29 ≤ 200 * (d + 1) + 200; omega⟩ ih _ _ _ heq⟩
      rw [if_neg h6] at heq
      by_cases h7 : t = 7
      · subst h7
        rw [if_pos rfl] at heq
        exact ⟨7, _, fs, _, _, y_Pas_canBeMarked, _, 1, hx, rfl, ⟨md_Pas_canBeMarked, wd_596, wd_600⟩, by decide, c_Pas_canBeMarked hG (10 * d + 10) (200 * d + 200) (v_canBeMarked d) _ ⟨Nat.le_refl _, Nat.le_refl _, by show 10 * d + 10 + 1 ≤ 10 * (d + 1) + 10; omega, by show 200 * d + 200 + 29 ≤ 200 * (d + 1) + 200; omega⟩ ih _ _ _ heq⟩
      rw [if_neg h7] at heq
      cases heq
def v_hasMark : Nat → Nat → Hs_t → Rs_t
  | 0, _, _ => none
  | d + 1, a, h => match tg_O h a with
    | some t => if t = 2 then f_Str_hasMark a h else (if t = 3 then f_Buf_hasMark a h else (if t = 4 then f_Str_hasMark a h else (if t = 5 then f_Pas_hasMark (v_hasMark d) a h else (if t = 6 then f_Pas_hasMark (v_hasMark d) a h else (if t = 7 then f_Pas_hasMark (v_hasMark d) a h else (none))))))
    | none => none
set_option maxHeartbeats 4000000 in
theorem vk_hasMark {l : Launch} {s0 : State} {A0 : Array Value} {G : Gx_t} (hG : G_0 l s0 A0 G) : ∀ (d a : Nat) (h : Hs_t) (r0 : Outcome × Hs_t), v_hasMark d a h = some r0 → V_X G s0 l xn_hasMark { frames := 10 * d + 10, cells := 0, slots := 0, locals := 200 * d + 200 } a [] h r0 := by
  intro d
  induction d with
  | zero =>
    intro a h r0 heq
    unfold v_hasMark at heq
    cases heq
  | succ d ih =>
    intro a h r0 heq
    unfold v_hasMark at heq
    cases ht : tg_O h a with
    | none => simp [ht] at heq
    | some t =>
      simp only [ht] at heq
      obtain ⟨fs, hx⟩ := tg_O_spec ht
      by_cases h2 : t = 2
      · subst h2
        rw [if_pos rfl] at heq
        exact ⟨2, _, fs, _, _, y_Str_hasMark, _, 1, hx, rfl, ⟨md_Str_hasMark, wd_654, wd_666⟩, by decide, c_Str_hasMark hG _ ⟨Nat.le_refl _, Nat.le_refl _, by show 0 ≤ 10 * (d + 1) + 10; omega, by show 0 ≤ 200 * (d + 1) + 200; omega⟩ _ _ _ heq⟩
      rw [if_neg h2] at heq
      by_cases h3 : t = 3
      · subst h3
        rw [if_pos rfl] at heq
        exact ⟨3, _, fs, _, _, y_Buf_hasMark, _, 1, hx, rfl, ⟨md_Buf_hasMark, wd_657, wd_656⟩, by decide, c_Buf_hasMark hG _ ⟨Nat.le_refl _, Nat.le_refl _, by show 0 ≤ 10 * (d + 1) + 10; omega, by show 0 ≤ 200 * (d + 1) + 200; omega⟩ _ _ _ heq⟩
      rw [if_neg h3] at heq
      by_cases h4 : t = 4
      · subst h4
        rw [if_pos rfl] at heq
        exact ⟨4, _, fs, _, _, y_Str_hasMark, _, 1, hx, rfl, ⟨md_Str_hasMark, wd_654, wd_665⟩, by decide, c_Str_hasMark hG _ ⟨Nat.le_refl _, Nat.le_refl _, by show 0 ≤ 10 * (d + 1) + 10; omega, by show 0 ≤ 200 * (d + 1) + 200; omega⟩ _ _ _ heq⟩
      rw [if_neg h4] at heq
      by_cases h5 : t = 5
      · subst h5
        rw [if_pos rfl] at heq
        exact ⟨5, _, fs, _, _, y_Pas_hasMark, _, 1, hx, rfl, ⟨md_Pas_hasMark, wd_660, wd_663⟩, by decide, c_Pas_hasMark hG (10 * d + 10) (200 * d + 200) (v_hasMark d) _ ⟨Nat.le_refl _, Nat.le_refl _, by show 10 * d + 10 + 1 ≤ 10 * (d + 1) + 10; omega, by show 200 * d + 200 + 29 ≤ 200 * (d + 1) + 200; omega⟩ ih _ _ _ heq⟩
      rw [if_neg h5] at heq
      by_cases h6 : t = 6
      · subst h6
        rw [if_pos rfl] at heq
        exact ⟨6, _, fs, _, _, y_Pas_hasMark, _, 1, hx, rfl, ⟨md_Pas_hasMark, wd_660, wd_659⟩, by decide, c_Pas_hasMark hG (10 * d + 10) (200 * d + 200) (v_hasMark d) _ ⟨Nat.le_refl _, Nat.le_refl _, by show 10 * d + 10 + 1 ≤ 10 * (d + 1) + 10; omega, by show 200 * d + 200 + 29 ≤ 200 * (d + 1) + 200; omega⟩ ih _ _ _ heq⟩
      rw [if_neg h6] at heq
      by_cases h7 : t = 7
      · subst h7
        rw [if_pos rfl] at heq
        exact ⟨7, _, fs, _, _, y_Pas_hasMark, _, 1, hx, rfl, ⟨md_Pas_hasMark, wd_660, wd_664⟩, by decide, c_Pas_hasMark hG (10 * d + 10) (200 * d + 200) (v_hasMark d) _ ⟨Nat.le_refl _, Nat.le_refl _, by show 10 * d + 10 + 1 ≤ 10 * (d + 1) + 10; omega, by show 200 * d + 200 + 29 ≤ 200 * (d + 1) + 200; omega⟩ ih _ _ _ heq⟩
      rw [if_neg h7] at heq
      cases heq
def v_takeMark : Nat → Nat → Int32 → Hs_t → Rs_t
  | 0, _, _, _ => none
  | d + 1, a, x1, h => match tg_O h a with
    | some t => if t = 2 then f_Str_takeMark a x1 h else (if t = 3 then f_Buf_takeMark a x1 h else (if t = 4 then f_Str_takeMark a x1 h else (if t = 5 then f_Pas_takeMark (v_takeMark d) a x1 h else (if t = 6 then f_Pas_takeMark (v_takeMark d) a x1 h else (if t = 7 then f_Pas_takeMark (v_takeMark d) a x1 h else (none))))))
    | none => none
set_option maxHeartbeats 4000000 in
theorem vk_takeMark {l : Launch} {s0 : State} {A0 : Array Value} {G : Gx_t} (hG : G_0 l s0 A0 G) : ∀ (d a : Nat) (x1 : Int32) (h : Hs_t) (r0 : Outcome × Hs_t), v_takeMark d a x1 h = some r0 → V_X G s0 l xn_takeMark { frames := 10 * d + 10, cells := 0, slots := 0, locals := 200 * d + 200 } a [.int x1] h r0 := by
  intro d
  induction d with
  | zero =>
    intro a x1 h r0 heq
    unfold v_takeMark at heq
    cases heq
  | succ d ih =>
    intro a x1 h r0 heq
    unfold v_takeMark at heq
    cases ht : tg_O h a with
    | none => simp [ht] at heq
    | some t =>
      simp only [ht] at heq
      obtain ⟨fs, hx⟩ := tg_O_spec ht
      by_cases h2 : t = 2
      · subst h2
        rw [if_pos rfl] at heq
        exact ⟨2, _, fs, _, _, y_Str_takeMark, _, 2, hx, rfl, ⟨md_Str_takeMark, wd_620, wd_644⟩, by decide, c_Str_takeMark hG _ ⟨Nat.le_refl _, Nat.le_refl _, by show 0 ≤ 10 * (d + 1) + 10; omega, by show 0 ≤ 200 * (d + 1) + 200; omega⟩ _ _ _ _ heq⟩
      rw [if_neg h2] at heq
      by_cases h3 : t = 3
      · subst h3
        rw [if_pos rfl] at heq
        exact ⟨3, _, fs, _, _, y_Buf_takeMark, _, 2, hx, rfl, ⟨md_Buf_takeMark, wd_623, wd_622⟩, by decide, c_Buf_takeMark hG _ ⟨Nat.le_refl _, Nat.le_refl _, by show 0 ≤ 10 * (d + 1) + 10; omega, by show 0 ≤ 200 * (d + 1) + 200; omega⟩ _ _ _ _ heq⟩
      rw [if_neg h3] at heq
      by_cases h4 : t = 4
      · subst h4
        rw [if_pos rfl] at heq
        exact ⟨4, _, fs, _, _, y_Str_takeMark, _, 2, hx, rfl, ⟨md_Str_takeMark, wd_620, wd_643⟩, by decide, c_Str_takeMark hG _ ⟨Nat.le_refl _, Nat.le_refl _, by show 0 ≤ 10 * (d + 1) + 10; omega, by show 0 ≤ 200 * (d + 1) + 200; omega⟩ _ _ _ _ heq⟩
      rw [if_neg h4] at heq
      by_cases h5 : t = 5
      · subst h5
        rw [if_pos rfl] at heq
        exact ⟨5, _, fs, _, _, y_Pas_takeMark, _, 2, hx, rfl, ⟨md_Pas_takeMark, wd_626, wd_641⟩, by decide, c_Pas_takeMark hG (10 * d + 10) (200 * d + 200) (v_takeMark d) _ ⟨Nat.le_refl _, Nat.le_refl _, by show 10 * d + 10 + 7 ≤ 10 * (d + 1) + 10; omega, by show 200 * d + 200 + 109 ≤ 200 * (d + 1) + 200; omega⟩ ih _ _ _ _ heq⟩
      rw [if_neg h5] at heq
      by_cases h6 : t = 6
      · subst h6
        rw [if_pos rfl] at heq
        exact ⟨6, _, fs, _, _, y_Pas_takeMark, _, 2, hx, rfl, ⟨md_Pas_takeMark, wd_626, wd_625⟩, by decide, c_Pas_takeMark hG (10 * d + 10) (200 * d + 200) (v_takeMark d) _ ⟨Nat.le_refl _, Nat.le_refl _, by show 10 * d + 10 + 7 ≤ 10 * (d + 1) + 10; omega, by show 200 * d + 200 + 109 ≤ 200 * (d + 1) + 200; omega⟩ ih _ _ _ _ heq⟩
      rw [if_neg h6] at heq
      by_cases h7 : t = 7
      · subst h7
        rw [if_pos rfl] at heq
        exact ⟨7, _, fs, _, _, y_Pas_takeMark, _, 2, hx, rfl, ⟨md_Pas_takeMark, wd_626, wd_642⟩, by decide, c_Pas_takeMark hG (10 * d + 10) (200 * d + 200) (v_takeMark d) _ ⟨Nat.le_refl _, Nat.le_refl _, by show 10 * d + 10 + 7 ≤ 10 * (d + 1) + 10; omega, by show 200 * d + 200 + 109 ≤ 200 * (d + 1) + 200; omega⟩ ih _ _ _ _ heq⟩
      rw [if_neg h7] at heq
      cases heq
def v_goBack : Nat → Nat → Hs_t → Rs_t
  | 0, _, _ => none
  | d + 1, a, h => match tg_O h a with
    | some t => if t = 2 then f_Str_goBack a h else (if t = 3 then f_Buf_goBack a h else (if t = 4 then f_Str_goBack a h else (if t = 5 then f_Pas_goBack (v_goBack d) a h else (if t = 6 then f_Pas_goBack (v_goBack d) a h else (if t = 7 then f_Pas_goBack (v_goBack d) a h else (none))))))
    | none => none
set_option maxHeartbeats 4000000 in
theorem vk_goBack {l : Launch} {s0 : State} {A0 : Array Value} {G : Gx_t} (hG : G_0 l s0 A0 G) : ∀ (d a : Nat) (h : Hs_t) (r0 : Outcome × Hs_t), v_goBack d a h = some r0 → V_X G s0 l xn_goBack { frames := 10 * d + 10, cells := 0, slots := 0, locals := 200 * d + 200 } a [] h r0 := by
  intro d
  induction d with
  | zero =>
    intro a h r0 heq
    unfold v_goBack at heq
    cases heq
  | succ d ih =>
    intro a h r0 heq
    unfold v_goBack at heq
    cases ht : tg_O h a with
    | none => simp [ht] at heq
    | some t =>
      simp only [ht] at heq
      obtain ⟨fs, hx⟩ := tg_O_spec ht
      by_cases h2 : t = 2
      · subst h2
        rw [if_pos rfl] at heq
        exact ⟨2, _, fs, _, _, y_Str_goBack, _, 1, hx, rfl, ⟨md_Str_goBack, wd_669, wd_693⟩, by decide, c_Str_goBack hG _ ⟨Nat.le_refl _, Nat.le_refl _, by show 0 ≤ 10 * (d + 1) + 10; omega, by show 0 ≤ 200 * (d + 1) + 200; omega⟩ _ _ _ heq⟩
      rw [if_neg h2] at heq
      by_cases h3 : t = 3
      · subst h3
        rw [if_pos rfl] at heq
        exact ⟨3, _, fs, _, _, y_Buf_goBack, _, 1, hx, rfl, ⟨md_Buf_goBack, wd_672, wd_671⟩, by decide, c_Buf_goBack hG _ ⟨Nat.le_refl _, Nat.le_refl _, by show 0 ≤ 10 * (d + 1) + 10; omega, by show 0 ≤ 200 * (d + 1) + 200; omega⟩ _ _ _ heq⟩
      rw [if_neg h3] at heq
      by_cases h4 : t = 4
      · subst h4
        rw [if_pos rfl] at heq
        exact ⟨4, _, fs, _, _, y_Str_goBack, _, 1, hx, rfl, ⟨md_Str_goBack, wd_669, wd_692⟩, by decide, c_Str_goBack hG _ ⟨Nat.le_refl _, Nat.le_refl _, by show 0 ≤ 10 * (d + 1) + 10; omega, by show 0 ≤ 200 * (d + 1) + 200; omega⟩ _ _ _ heq⟩
      rw [if_neg h4] at heq
      by_cases h5 : t = 5
      · subst h5
        rw [if_pos rfl] at heq
        exact ⟨5, _, fs, _, _, y_Pas_goBack, _, 1, hx, rfl, ⟨md_Pas_goBack, wd_675, wd_690⟩, by decide, c_Pas_goBack hG (10 * d + 10) (200 * d + 200) (v_goBack d) _ ⟨Nat.le_refl _, Nat.le_refl _, by show 10 * d + 10 + 7 ≤ 10 * (d + 1) + 10; omega, by show 200 * d + 200 + 109 ≤ 200 * (d + 1) + 200; omega⟩ ih _ _ _ heq⟩
      rw [if_neg h5] at heq
      by_cases h6 : t = 6
      · subst h6
        rw [if_pos rfl] at heq
        exact ⟨6, _, fs, _, _, y_Pas_goBack, _, 1, hx, rfl, ⟨md_Pas_goBack, wd_675, wd_674⟩, by decide, c_Pas_goBack hG (10 * d + 10) (200 * d + 200) (v_goBack d) _ ⟨Nat.le_refl _, Nat.le_refl _, by show 10 * d + 10 + 7 ≤ 10 * (d + 1) + 10; omega, by show 200 * d + 200 + 109 ≤ 200 * (d + 1) + 200; omega⟩ ih _ _ _ heq⟩
      rw [if_neg h6] at heq
      by_cases h7 : t = 7
      · subst h7
        rw [if_pos rfl] at heq
        exact ⟨7, _, fs, _, _, y_Pas_goBack, _, 1, hx, rfl, ⟨md_Pas_goBack, wd_675, wd_691⟩, by decide, c_Pas_goBack hG (10 * d + 10) (200 * d + 200) (v_goBack d) _ ⟨Nat.le_refl _, Nat.le_refl _, by show 10 * d + 10 + 7 ≤ 10 * (d + 1) + 10; omega, by show 200 * d + 200 + 109 ≤ 200 * (d + 1) + 200; omega⟩ ih _ _ _ heq⟩
      rw [if_neg h7] at heq
      cases heq
