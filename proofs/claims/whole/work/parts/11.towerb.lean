theorem d_T_number_0 : decode b_T_number 0 = .ok (.aload_n 0, 1) := by decide +kernel
theorem d_T_number_1 : decode b_T_number 1 = .ok (.invokevirtual 83, 3) := by decide +kernel
theorem d_T_number_4 : decode b_T_number 4 = .ok (.iload_n 1, 1) := by decide +kernel
theorem d_T_number_5 : decode b_T_number 5 = .ok (.iconst 1, 1) := by decide +kernel
theorem d_T_number_6 : decode b_T_number 6 = .ok (.if_icmp .lt 9, 3) := by decide +kernel
theorem d_T_number_9 : decode b_T_number 9 = .ok (.iload_n 1, 1) := by decide +kernel
theorem d_T_number_10 : decode b_T_number 10 = .ok (.bipush 8, 2) := by decide +kernel
theorem d_T_number_12 : decode b_T_number 12 = .ok (.if_icmp .le 11, 3) := by decide +kernel
theorem d_T_number_15 : decode b_T_number 15 = .ok (.new 42, 3) := by decide +kernel
theorem d_T_number_18 : decode b_T_number 18 = .ok (.dup, 1) := by decide +kernel
theorem d_T_number_19 : decode b_T_number 19 = .ok (.invokespecial 44, 3) := by decide +kernel
theorem d_T_number_22 : decode b_T_number 22 = .ok (.athrow, 1) := by decide +kernel
theorem d_T_number_23 : decode b_T_number 23 = .ok (.aload_n 0, 1) := by decide +kernel
theorem d_T_number_24 : decode b_T_number 24 = .ok (.iload_n 1, 1) := by decide +kernel
theorem d_T_number_25 : decode b_T_number 25 = .ok (.invokevirtual 97, 3) := by decide +kernel
theorem d_T_number_28 : decode b_T_number 28 = .ok (.aload_n 0, 1) := by decide +kernel
theorem d_T_number_29 : decode b_T_number 29 = .ok (.iload_n 1, 1) := by decide +kernel
theorem d_T_number_30 : decode b_T_number 30 = .ok (.invokevirtual 100, 3) := by decide +kernel
theorem d_T_number_33 : decode b_T_number 33 = .ok (.lreturn, 1) := by decide +kernel
theorem d_T_widthByFirstByte_0 : decode b_T_widthByFirstByte 0 = .ok (.iload_n 0, 1) := by decide +kernel
theorem d_T_widthByFirstByte_1 : decode b_T_widthByFirstByte 1 = .ok (.sipush 128, 3) := by decide +kernel
theorem d_T_widthByFirstByte_4 : decode b_T_widthByFirstByte 4 = .ok (.if_icmp .ge 5, 3) := by decide +kernel
theorem d_T_widthByFirstByte_7 : decode b_T_widthByFirstByte 7 = .ok (.iconst 1, 1) := by decide +kernel
theorem d_T_widthByFirstByte_8 : decode b_T_widthByFirstByte 8 = .ok (.ireturn, 1) := by decide +kernel
theorem d_T_widthByFirstByte_9 : decode b_T_widthByFirstByte 9 = .ok (.iload_n 0, 1) := by decide +kernel
theorem d_T_widthByFirstByte_10 : decode b_T_widthByFirstByte 10 = .ok (.sipush 224, 3) := by decide +kernel
theorem d_T_widthByFirstByte_13 : decode b_T_widthByFirstByte 13 = .ok (.iand, 1) := by decide +kernel
theorem d_T_widthByFirstByte_14 : decode b_T_widthByFirstByte 14 = .ok (.sipush 192, 3) := by decide +kernel
theorem d_T_widthByFirstByte_17 : decode b_T_widthByFirstByte 17 = .ok (.if_icmp .ne 5, 3) := by decide +kernel
theorem d_T_widthByFirstByte_20 : decode b_T_widthByFirstByte 20 = .ok (.iconst 2, 1) := by decide +kernel
theorem d_T_widthByFirstByte_21 : decode b_T_widthByFirstByte 21 = .ok (.ireturn, 1) := by decide +kernel
theorem d_T_widthByFirstByte_22 : decode b_T_widthByFirstByte 22 = .ok (.iload_n 0, 1) := by decide +kernel
theorem d_T_widthByFirstByte_23 : decode b_T_widthByFirstByte 23 = .ok (.sipush 240, 3) := by decide +kernel
theorem d_T_widthByFirstByte_26 : decode b_T_widthByFirstByte 26 = .ok (.iand, 1) := by decide +kernel
theorem d_T_widthByFirstByte_27 : decode b_T_widthByFirstByte 27 = .ok (.sipush 224, 3) := by decide +kernel
theorem d_T_widthByFirstByte_30 : decode b_T_widthByFirstByte 30 = .ok (.if_icmp .ne 7, 3) := by decide +kernel
theorem d_T_widthByFirstByte_33 : decode b_T_widthByFirstByte 33 = .ok (.iconst 3, 1) := by decide +kernel
theorem d_T_widthByFirstByte_34 : decode b_T_widthByFirstByte 34 = .ok (.goto 4, 3) := by decide +kernel
theorem d_T_widthByFirstByte_37 : decode b_T_widthByFirstByte 37 = .ok (.iconst 0, 1) := by decide +kernel
theorem d_T_widthByFirstByte_38 : decode b_T_widthByFirstByte 38 = .ok (.ireturn, 1) := by decide +kernel
theorem d_T_letterWidth_0 : decode b_T_letterWidth 0 = .ok (.aload_n 0, 1) := by decide +kernel
theorem d_T_letterWidth_1 : decode b_T_letterWidth 1 = .ok (.iload_n 1, 1) := by decide +kernel
theorem d_T_letterWidth_2 : decode b_T_letterWidth 2 = .ok (.invokevirtual 94, 3) := by decide +kernel
theorem d_T_letterWidth_5 : decode b_T_letterWidth 5 = .ok (.invokestatic 198, 3) := by decide +kernel
theorem d_T_letterWidth_8 : decode b_T_letterWidth 8 = .ok (.istore_n 2, 1) := by decide +kernel
theorem d_T_letterWidth_9 : decode b_T_letterWidth 9 = .ok (.iload_n 1, 1) := by decide +kernel
theorem d_T_letterWidth_10 : decode b_T_letterWidth 10 = .ok (.iload_n 2, 1) := by decide +kernel
theorem d_T_letterWidth_11 : decode b_T_letterWidth 11 = .ok (.iadd, 1) := by decide +kernel
theorem d_T_letterWidth_12 : decode b_T_letterWidth 12 = .ok (.aload_n 0, 1) := by decide +kernel
theorem d_T_letterWidth_13 : decode b_T_letterWidth 13 = .ok (.getfield 111, 3) := by decide +kernel
theorem d_T_letterWidth_16 : decode b_T_letterWidth 16 = .ok (.if_icmp .le 5, 3) := by decide +kernel
theorem d_T_letterWidth_19 : decode b_T_letterWidth 19 = .ok (.iconst 0, 1) := by decide +kernel
theorem d_T_letterWidth_20 : decode b_T_letterWidth 20 = .ok (.ireturn, 1) := by decide +kernel
theorem d_T_letterWidth_21 : decode b_T_letterWidth 21 = .ok (.iconst 1, 1) := by decide +kernel
theorem d_T_letterWidth_22 : decode b_T_letterWidth 22 = .ok (.istore_n 3, 1) := by decide +kernel
theorem d_T_letterWidth_23 : decode b_T_letterWidth 23 = .ok (.iload_n 3, 1) := by decide +kernel
theorem d_T_letterWidth_24 : decode b_T_letterWidth 24 = .ok (.iload_n 2, 1) := by decide +kernel
theorem d_T_letterWidth_25 : decode b_T_letterWidth 25 = .ok (.if_icmp .ge 28, 3) := by decide +kernel
theorem d_T_letterWidth_28 : decode b_T_letterWidth 28 = .ok (.aload_n 0, 1) := by decide +kernel
theorem d_T_letterWidth_29 : decode b_T_letterWidth 29 = .ok (.iload_n 1, 1) := by decide +kernel
theorem d_T_letterWidth_30 : decode b_T_letterWidth 30 = .ok (.iload_n 3, 1) := by decide +kernel
theorem d_T_letterWidth_31 : decode b_T_letterWidth 31 = .ok (.iadd, 1) := by decide +kernel
theorem d_T_letterWidth_32 : decode b_T_letterWidth 32 = .ok (.invokevirtual 94, 3) := by decide +kernel
theorem d_T_letterWidth_35 : decode b_T_letterWidth 35 = .ok (.sipush 192, 3) := by decide +kernel
theorem d_T_letterWidth_38 : decode b_T_letterWidth 38 = .ok (.iand, 1) := by decide +kernel
theorem d_T_letterWidth_39 : decode b_T_letterWidth 39 = .ok (.sipush 128, 3) := by decide +kernel
theorem d_T_letterWidth_42 : decode b_T_letterWidth 42 = .ok (.if_icmp .eq 5, 3) := by decide +kernel
theorem d_T_letterWidth_45 : decode b_T_letterWidth 45 = .ok (.iconst 0, 1) := by decide +kernel
theorem d_T_letterWidth_46 : decode b_T_letterWidth 46 = .ok (.ireturn, 1) := by decide +kernel
theorem d_T_letterWidth_47 : decode b_T_letterWidth 47 = .ok (.iinc 3 1, 3) := by decide +kernel
theorem d_T_letterWidth_50 : decode b_T_letterWidth 50 = .ok (.goto (-27), 3) := by decide +kernel
theorem d_T_letterWidth_53 : decode b_T_letterWidth 53 = .ok (.iload_n 2, 1) := by decide +kernel
theorem d_T_letterWidth_54 : decode b_T_letterWidth 54 = .ok (.ireturn, 1) := by decide +kernel
theorem d_T_holdsJustLetters_0 : decode b_T_holdsJustLetters 0 = .ok (.iconst 0, 1) := by decide +kernel
theorem d_T_holdsJustLetters_1 : decode b_T_holdsJustLetters 1 = .ok (.istore_n 2, 1) := by decide +kernel
theorem d_T_holdsJustLetters_2 : decode b_T_holdsJustLetters 2 = .ok (.iload_n 1, 1) := by decide +kernel
theorem d_T_holdsJustLetters_3 : decode b_T_holdsJustLetters 3 = .ok (.istore_n 3, 1) := by decide +kernel
theorem d_T_holdsJustLetters_4 : decode b_T_holdsJustLetters 4 = .ok (.iload_n 3, 1) := by decide +kernel
theorem d_T_holdsJustLetters_5 : decode b_T_holdsJustLetters 5 = .ok (.aload_n 0, 1) := by decide +kernel
theorem d_T_holdsJustLetters_6 : decode b_T_holdsJustLetters 6 = .ok (.getfield 111, 3) := by decide +kernel
theorem d_T_holdsJustLetters_9 : decode b_T_holdsJustLetters 9 = .ok (.if_icmp .ge 22, 3) := by decide +kernel
theorem d_T_holdsJustLetters_12 : decode b_T_holdsJustLetters 12 = .ok (.aload_n 0, 1) := by decide +kernel
theorem d_T_holdsJustLetters_13 : decode b_T_holdsJustLetters 13 = .ok (.iload_n 3, 1) := by decide +kernel
theorem d_T_holdsJustLetters_14 : decode b_T_holdsJustLetters 14 = .ok (.invokestatic 190, 3) := by decide +kernel
theorem d_T_holdsJustLetters_17 : decode b_T_holdsJustLetters 17 = .ok (.istore_n 2, 1) := by decide +kernel
theorem d_T_holdsJustLetters_18 : decode b_T_holdsJustLetters 18 = .ok (.iload_n 2, 1) := by decide +kernel
theorem d_T_holdsJustLetters_19 : decode b_T_holdsJustLetters 19 = .ok (.ifCond .ne 5, 3) := by decide +kernel
theorem d_T_holdsJustLetters_22 : decode b_T_holdsJustLetters 22 = .ok (.iconst 0, 1) := by decide +kernel
theorem d_T_holdsJustLetters_23 : decode b_T_holdsJustLetters 23 = .ok (.ireturn, 1) := by decide +kernel
theorem d_T_holdsJustLetters_24 : decode b_T_holdsJustLetters 24 = .ok (.iload_n 3, 1) := by decide +kernel
theorem d_T_holdsJustLetters_25 : decode b_T_holdsJustLetters 25 = .ok (.iload_n 2, 1) := by decide +kernel
theorem d_T_holdsJustLetters_26 : decode b_T_holdsJustLetters 26 = .ok (.iadd, 1) := by decide +kernel
theorem d_T_holdsJustLetters_27 : decode b_T_holdsJustLetters 27 = .ok (.istore_n 3, 1) := by decide +kernel
theorem d_T_holdsJustLetters_28 : decode b_T_holdsJustLetters 28 = .ok (.goto (-24), 3) := by decide +kernel
theorem d_T_holdsJustLetters_31 : decode b_T_holdsJustLetters 31 = .ok (.iconst 1, 1) := by decide +kernel
theorem d_T_holdsJustLetters_32 : decode b_T_holdsJustLetters 32 = .ok (.ireturn, 1) := by decide +kernel
theorem d_T_letterOf_0 : decode b_T_letterOf 0 = .ok (.aload_n 0, 1) := by decide +kernel
theorem d_T_letterOf_1 : decode b_T_letterOf 1 = .ok (.iload_n 1, 1) := by decide +kernel
theorem d_T_letterOf_2 : decode b_T_letterOf 2 = .ok (.invokevirtual 94, 3) := by decide +kernel
theorem d_T_letterOf_5 : decode b_T_letterOf 5 = .ok (.istore_n 3, 1) := by decide +kernel
theorem d_T_letterOf_6 : decode b_T_letterOf 6 = .ok (.iload_n 2, 1) := by decide +kernel
theorem d_T_letterOf_7 : decode b_T_letterOf 7 = .ok (.iconst 1, 1) := by decide +kernel
theorem d_T_letterOf_8 : decode b_T_letterOf 8 = .ok (.if_icmp .ne 7, 3) := by decide +kernel
theorem d_T_letterOf_11 : decode b_T_letterOf 11 = .ok (.iload_n 3, 1) := by decide +kernel
theorem d_T_letterOf_12 : decode b_T_letterOf 12 = .ok (.goto 19, 3) := by decide +kernel
theorem d_T_letterOf_15 : decode b_T_letterOf 15 = .ok (.iload_n 2, 1) := by decide +kernel
theorem d_T_letterOf_16 : decode b_T_letterOf 16 = .ok (.iconst 2, 1) := by decide +kernel
theorem d_T_letterOf_17 : decode b_T_letterOf 17 = .ok (.if_icmp .ne 10, 3) := by decide +kernel
theorem d_T_letterOf_20 : decode b_T_letterOf 20 = .ok (.iload_n 3, 1) := by decide +kernel
theorem d_T_letterOf_21 : decode b_T_letterOf 21 = .ok (.bipush 31, 2) := by decide +kernel
theorem d_T_letterOf_23 : decode b_T_letterOf 23 = .ok (.iand, 1) := by decide +kernel
theorem d_T_letterOf_24 : decode b_T_letterOf 24 = .ok (.goto 7, 3) := by decide +kernel
theorem d_T_letterOf_27 : decode b_T_letterOf 27 = .ok (.iload_n 3, 1) := by decide +kernel
theorem d_T_letterOf_28 : decode b_T_letterOf 28 = .ok (.bipush 15, 2) := by decide +kernel
theorem d_T_letterOf_30 : decode b_T_letterOf 30 = .ok (.iand, 1) := by decide +kernel
theorem d_T_letterOf_31 : decode b_T_letterOf 31 = .ok (.istore 4, 2) := by decide +kernel
theorem d_T_letterOf_33 : decode b_T_letterOf 33 = .ok (.iconst 1, 1) := by decide +kernel
theorem d_T_letterOf_34 : decode b_T_letterOf 34 = .ok (.istore 5, 2) := by decide +kernel
theorem d_T_letterOf_36 : decode b_T_letterOf 36 = .ok (.iload 5, 2) := by decide +kernel
theorem d_T_letterOf_38 : decode b_T_letterOf 38 = .ok (.iload_n 2, 1) := by decide +kernel
theorem d_T_letterOf_39 : decode b_T_letterOf 39 = .ok (.if_icmp .ge 28, 3) := by decide +kernel
theorem d_T_letterOf_42 : decode b_T_letterOf 42 = .ok (.iload 4, 2) := by decide +kernel
theorem d_T_letterOf_44 : decode b_T_letterOf 44 = .ok (.bipush 6, 2) := by decide +kernel
theorem d_T_letterOf_46 : decode b_T_letterOf 46 = .ok (.ishl, 1) := by decide +kernel
theorem d_T_letterOf_47 : decode b_T_letterOf 47 = .ok (.aload_n 0, 1) := by decide +kernel
theorem d_T_letterOf_48 : decode b_T_letterOf 48 = .ok (.iload_n 1, 1) := by decide +kernel
theorem d_T_letterOf_49 : decode b_T_letterOf 49 = .ok (.iload 5, 2) := by decide +kernel
theorem d_T_letterOf_51 : decode b_T_letterOf 51 = .ok (.iadd, 1) := by decide +kernel
theorem d_T_letterOf_52 : decode b_T_letterOf 52 = .ok (.invokevirtual 94, 3) := by decide +kernel
theorem d_T_letterOf_55 : decode b_T_letterOf 55 = .ok (.bipush 63, 2) := by decide +kernel
theorem d_T_letterOf_57 : decode b_T_letterOf 57 = .ok (.iand, 1) := by decide +kernel
theorem d_T_letterOf_58 : decode b_T_letterOf 58 = .ok (.ior, 1) := by decide +kernel
theorem d_T_letterOf_59 : decode b_T_letterOf 59 = .ok (.istore 4, 2) := by decide +kernel
theorem d_T_letterOf_61 : decode b_T_letterOf 61 = .ok (.iinc 5 1, 3) := by decide +kernel
theorem d_T_letterOf_64 : decode b_T_letterOf 64 = .ok (.goto (-28), 3) := by decide +kernel
theorem d_T_letterOf_67 : decode b_T_letterOf 67 = .ok (.iload 4, 2) := by decide +kernel
theorem d_T_letterOf_69 : decode b_T_letterOf 69 = .ok (.ireturn, 1) := by decide +kernel
theorem d_T_takeLetters_0 : decode b_T_takeLetters 0 = .ok (.aload_n 0, 1) := by decide +kernel
theorem d_T_takeLetters_1 : decode b_T_takeLetters 1 = .ok (.getfield 35, 3) := by decide +kernel
theorem d_T_takeLetters_4 : decode b_T_takeLetters 4 = .ok (.invokevirtual 174, 3) := by decide +kernel
theorem d_T_takeLetters_7 : decode b_T_takeLetters 7 = .ok (.iconst 1, 1) := by decide +kernel
theorem d_T_takeLetters_8 : decode b_T_takeLetters 8 = .ok (.istore_n 1, 1) := by decide +kernel
theorem d_T_takeLetters_9 : decode b_T_takeLetters 9 = .ok (.iconst 2, 1) := by decide +kernel
theorem d_T_takeLetters_10 : decode b_T_takeLetters 10 = .ok (.istore_n 2, 1) := by decide +kernel
theorem d_T_takeLetters_11 : decode b_T_takeLetters 11 = .ok (.iload_n 2, 1) := by decide +kernel
theorem d_T_takeLetters_12 : decode b_T_takeLetters 12 = .ok (.aload_n 0, 1) := by decide +kernel
theorem d_T_takeLetters_13 : decode b_T_takeLetters 13 = .ok (.getfield 31, 3) := by decide +kernel
theorem d_T_takeLetters_16 : decode b_T_takeLetters 16 = .ok (.getfield 111, 3) := by decide +kernel
theorem d_T_takeLetters_19 : decode b_T_takeLetters 19 = .ok (.if_icmp .ge 39, 3) := by decide +kernel
theorem d_T_takeLetters_22 : decode b_T_takeLetters 22 = .ok (.iload_n 1, 1) := by decide +kernel
theorem d_T_takeLetters_23 : decode b_T_takeLetters 23 = .ok (.ifCond .le 35, 3) := by decide +kernel
theorem d_T_takeLetters_26 : decode b_T_takeLetters 26 = .ok (.aload_n 0, 1) := by decide +kernel
theorem d_T_takeLetters_27 : decode b_T_takeLetters 27 = .ok (.getfield 31, 3) := by decide +kernel
theorem d_T_takeLetters_30 : decode b_T_takeLetters 30 = .ok (.iload_n 2, 1) := by decide +kernel
theorem d_T_takeLetters_31 : decode b_T_takeLetters 31 = .ok (.invokestatic 190, 3) := by decide +kernel
theorem d_T_takeLetters_34 : decode b_T_takeLetters 34 = .ok (.istore_n 1, 1) := by decide +kernel
theorem d_T_takeLetters_35 : decode b_T_takeLetters 35 = .ok (.aload_n 0, 1) := by decide +kernel
theorem d_T_takeLetters_36 : decode b_T_takeLetters 36 = .ok (.getfield 35, 3) := by decide +kernel
theorem d_T_takeLetters_39 : decode b_T_takeLetters 39 = .ok (.aload_n 0, 1) := by decide +kernel
theorem d_T_takeLetters_40 : decode b_T_takeLetters 40 = .ok (.getfield 31, 3) := by decide +kernel
theorem d_T_takeLetters_43 : decode b_T_takeLetters 43 = .ok (.iload_n 2, 1) := by decide +kernel
theorem d_T_takeLetters_44 : decode b_T_takeLetters 44 = .ok (.iload_n 1, 1) := by decide +kernel
theorem d_T_takeLetters_45 : decode b_T_takeLetters 45 = .ok (.invokestatic 194, 3) := by decide +kernel
theorem d_T_takeLetters_48 : decode b_T_takeLetters 48 = .ok (.invokevirtual 115, 3) := by decide +kernel
theorem d_T_takeLetters_51 : decode b_T_takeLetters 51 = .ok (.iload_n 2, 1) := by decide +kernel
theorem d_T_takeLetters_52 : decode b_T_takeLetters 52 = .ok (.iload_n 1, 1) := by decide +kernel
theorem d_T_takeLetters_53 : decode b_T_takeLetters 53 = .ok (.iadd, 1) := by decide +kernel
theorem d_T_takeLetters_54 : decode b_T_takeLetters 54 = .ok (.istore_n 2, 1) := by decide +kernel
theorem d_T_takeLetters_55 : decode b_T_takeLetters 55 = .ok (.goto (-44), 3) := by decide +kernel
theorem d_T_takeLetters_58 : decode b_T_takeLetters 58 = .ok (.return_, 1) := by decide +kernel
theorem d_T_text_0 : decode b_T_text 0 = .ok (.aload_n 0, 1) := by decide +kernel
theorem d_T_text_1 : decode b_T_text 1 = .ok (.invokevirtual 83, 3) := by decide +kernel
theorem d_T_text_4 : decode b_T_text 4 = .ok (.aload_n 0, 1) := by decide +kernel
theorem d_T_text_5 : decode b_T_text 5 = .ok (.iconst 2, 1) := by decide +kernel
theorem d_T_text_6 : decode b_T_text 6 = .ok (.invokevirtual 97, 3) := by decide +kernel
theorem d_T_text_9 : decode b_T_text 9 = .ok (.aload_n 0, 1) := by decide +kernel
theorem d_T_text_10 : decode b_T_text 10 = .ok (.iconst 2, 1) := by decide +kernel
theorem d_T_text_11 : decode b_T_text 11 = .ok (.invokevirtual 100, 3) := by decide +kernel
theorem d_T_text_14 : decode b_T_text 14 = .ok (.l2i, 1) := by decide +kernel
theorem d_T_text_15 : decode b_T_text 15 = .ok (.istore_n 1, 1) := by decide +kernel
theorem d_T_text_16 : decode b_T_text 16 = .ok (.iload_n 1, 1) := by decide +kernel
theorem d_T_text_17 : decode b_T_text 17 = .ok (.bipush 118, 2) := by decide +kernel
theorem d_T_text_19 : decode b_T_text 19 = .ok (.if_icmp .le 11, 3) := by decide +kernel
theorem d_T_text_22 : decode b_T_text 22 = .ok (.new 42, 3) := by decide +kernel
theorem d_T_text_25 : decode b_T_text 25 = .ok (.dup, 1) := by decide +kernel
theorem d_T_text_26 : decode b_T_text 26 = .ok (.invokespecial 44, 3) := by decide +kernel
theorem d_T_text_29 : decode b_T_text 29 = .ok (.athrow, 1) := by decide +kernel
theorem d_T_text_30 : decode b_T_text 30 = .ok (.aload_n 0, 1) := by decide +kernel
theorem d_T_text_31 : decode b_T_text 31 = .ok (.iload_n 1, 1) := by decide +kernel
theorem d_T_text_32 : decode b_T_text 32 = .ok (.invokevirtual 97, 3) := by decide +kernel
theorem d_T_text_35 : decode b_T_text 35 = .ok (.aload_n 0, 1) := by decide +kernel
theorem d_T_text_36 : decode b_T_text 36 = .ok (.getfield 31, 3) := by decide +kernel
theorem d_T_text_39 : decode b_T_text 39 = .ok (.iconst 2, 1) := by decide +kernel
theorem d_T_text_40 : decode b_T_text 40 = .ok (.invokestatic 104, 3) := by decide +kernel
theorem d_T_text_43 : decode b_T_text 43 = .ok (.ifCond .ne 11, 3) := by decide +kernel
theorem d_T_text_46 : decode b_T_text 46 = .ok (.new 42, 3) := by decide +kernel
theorem d_T_text_49 : decode b_T_text 49 = .ok (.dup, 1) := by decide +kernel
theorem d_T_text_50 : decode b_T_text 50 = .ok (.invokespecial 44, 3) := by decide +kernel
theorem d_T_text_53 : decode b_T_text 53 = .ok (.athrow, 1) := by decide +kernel
theorem d_T_text_54 : decode b_T_text 54 = .ok (.aload_n 0, 1) := by decide +kernel
theorem d_T_text_55 : decode b_T_text 55 = .ok (.invokevirtual 108, 3) := by decide +kernel
theorem d_T_text_58 : decode b_T_text 58 = .ok (.aload_n 0, 1) := by decide +kernel
theorem d_T_text_59 : decode b_T_text 59 = .ok (.getfield 35, 3) := by decide +kernel
theorem d_T_text_62 : decode b_T_text 62 = .ok (.getfield 111, 3) := by decide +kernel
theorem d_T_text_65 : decode b_T_text 65 = .ok (.ireturn, 1) := by decide +kernel
theorem d_T_line_0 : decode b_T_line 0 = .ok (.aload_n 0, 1) := by decide +kernel
theorem d_T_line_1 : decode b_T_line 1 = .ok (.invokevirtual 83, 3) := by decide +kernel
theorem d_T_line_4 : decode b_T_line 4 = .ok (.iconst 0, 1) := by decide +kernel
theorem d_T_line_5 : decode b_T_line 5 = .ok (.istore_n 1, 1) := by decide +kernel
theorem d_T_line_6 : decode b_T_line 6 = .ok (.iload_n 1, 1) := by decide +kernel
theorem d_T_line_7 : decode b_T_line 7 = .ok (.sipush 160, 3) := by decide +kernel
theorem d_T_line_10 : decode b_T_line 10 = .ok (.if_icmp .gt 104, 3) := by decide +kernel
theorem d_T_line_13 : decode b_T_line 13 = .ok (.aload_n 0, 1) := by decide +kernel
theorem d_T_line_14 : decode b_T_line 14 = .ok (.iconst 1, 1) := by decide +kernel
theorem d_T_line_15 : decode b_T_line 15 = .ok (.invokevirtual 86, 3) := by decide +kernel
theorem d_T_line_18 : decode b_T_line 18 = .ok (.istore_n 2, 1) := by decide +kernel
theorem d_T_line_19 : decode b_T_line 19 = .ok (.iload_n 2, 1) := by decide +kernel
theorem d_T_line_20 : decode b_T_line 20 = .ok (.iconst (-1), 1) := by decide +kernel
theorem d_T_line_21 : decode b_T_line 21 = .ok (.if_icmp .ne 11, 3) := by decide +kernel
theorem d_T_line_24 : decode b_T_line 24 = .ok (.new 49, 3) := by decide +kernel
theorem d_T_line_27 : decode b_T_line 27 = .ok (.dup, 1) := by decide +kernel
theorem d_T_line_28 : decode b_T_line 28 = .ok (.invokespecial 51, 3) := by decide +kernel
theorem d_T_line_31 : decode b_T_line 31 = .ok (.athrow, 1) := by decide +kernel
theorem d_T_line_32 : decode b_T_line 32 = .ok (.iload_n 2, 1) := by decide +kernel
theorem d_T_line_33 : decode b_T_line 33 = .ok (.ifCond .ne 25, 3) := by decide +kernel
theorem d_T_line_36 : decode b_T_line 36 = .ok (.aload_n 0, 1) := by decide +kernel
theorem d_T_line_37 : decode b_T_line 37 = .ok (.getfield 31, 3) := by decide +kernel
theorem d_T_line_40 : decode b_T_line 40 = .ok (.getfield 111, 3) := by decide +kernel
theorem d_T_line_43 : decode b_T_line 43 = .ok (.ifCond .ne 7, 3) := by decide +kernel
theorem d_T_line_46 : decode b_T_line 46 = .ok (.iconst (-1), 1) := by decide +kernel
theorem d_T_line_47 : decode b_T_line 47 = .ok (.goto 10, 3) := by decide +kernel
theorem d_T_line_50 : decode b_T_line 50 = .ok (.aload_n 0, 1) := by decide +kernel
theorem d_T_line_51 : decode b_T_line 51 = .ok (.getfield 31, 3) := by decide +kernel
theorem d_T_line_54 : decode b_T_line 54 = .ok (.getfield 111, 3) := by decide +kernel
theorem d_T_line_57 : decode b_T_line 57 = .ok (.ireturn, 1) := by decide +kernel
theorem d_T_line_58 : decode b_T_line 58 = .ok (.aload_n 0, 1) := by decide +kernel
theorem d_T_line_59 : decode b_T_line 59 = .ok (.getfield 22, 3) := by decide +kernel
theorem d_T_line_62 : decode b_T_line 62 = .ok (.iconst 0, 1) := by decide +kernel
theorem d_T_line_63 : decode b_T_line 63 = .ok (.iaload, 1) := by decide +kernel
theorem d_T_line_64 : decode b_T_line 64 = .ok (.istore_n 3, 1) := by decide +kernel
theorem d_T_line_65 : decode b_T_line 65 = .ok (.iload_n 3, 1) := by decide +kernel
theorem d_T_line_66 : decode b_T_line 66 = .ok (.bipush 10, 2) := by decide +kernel
theorem d_T_line_68 : decode b_T_line 68 = .ok (.if_icmp .eq 9, 3) := by decide +kernel
theorem d_T_line_71 : decode b_T_line 71 = .ok (.iload_n 3, 1) := by decide +kernel
theorem d_T_line_72 : decode b_T_line 72 = .ok (.bipush 13, 2) := by decide +kernel
theorem d_T_line_74 : decode b_T_line 74 = .ok (.if_icmp .ne 26, 3) := by decide +kernel
theorem d_T_line_77 : decode b_T_line 77 = .ok (.aload_n 0, 1) := by decide +kernel
theorem d_T_line_78 : decode b_T_line 78 = .ok (.iload_n 3, 1) := by decide +kernel
theorem d_T_line_79 : decode b_T_line 79 = .ok (.bipush 13, 2) := by decide +kernel
theorem d_T_line_81 : decode b_T_line 81 = .ok (.if_icmp .ne 7, 3) := by decide +kernel
theorem d_T_line_84 : decode b_T_line 84 = .ok (.iconst 1, 1) := by decide +kernel
theorem d_T_line_85 : decode b_T_line 85 = .ok (.goto 4, 3) := by decide +kernel
theorem d_T_line_88 : decode b_T_line 88 = .ok (.iconst 0, 1) := by decide +kernel
theorem d_T_line_89 : decode b_T_line 89 = .ok (.putfield 112, 3) := by decide +kernel
theorem d_T_line_92 : decode b_T_line 92 = .ok (.aload_n 0, 1) := by decide +kernel
theorem d_T_line_93 : decode b_T_line 93 = .ok (.getfield 31, 3) := by decide +kernel
theorem d_T_line_96 : decode b_T_line 96 = .ok (.getfield 111, 3) := by decide +kernel
theorem d_T_line_99 : decode b_T_line 99 = .ok (.ireturn, 1) := by decide +kernel
theorem d_T_line_100 : decode b_T_line 100 = .ok (.aload_n 0, 1) := by decide +kernel
theorem d_T_line_101 : decode b_T_line 101 = .ok (.getfield 31, 3) := by decide +kernel
theorem d_T_line_104 : decode b_T_line 104 = .ok (.iload_n 3, 1) := by decide +kernel
theorem d_T_line_105 : decode b_T_line 105 = .ok (.invokevirtual 115, 3) := by decide +kernel
theorem d_T_line_108 : decode b_T_line 108 = .ok (.iinc 1 1, 3) := by decide +kernel
theorem d_T_line_111 : decode b_T_line 111 = .ok (.goto (-105), 3) := by decide +kernel
theorem d_T_line_114 : decode b_T_line 114 = .ok (.aload_n 0, 1) := by decide +kernel
theorem d_T_line_115 : decode b_T_line 115 = .ok (.getfield 31, 3) := by decide +kernel
theorem d_T_line_118 : decode b_T_line 118 = .ok (.getfield 111, 3) := by decide +kernel
theorem d_T_line_121 : decode b_T_line 121 = .ok (.ireturn, 1) := by decide +kernel
theorem d_T_mark_0 : decode b_T_mark 0 = .ok (.aload_n 0, 1) := by decide +kernel
theorem d_T_mark_1 : decode b_T_mark 1 = .ok (.invokevirtual 118, 3) := by decide +kernel
theorem d_T_mark_4 : decode b_T_mark 4 = .ok (.iload_n 1, 1) := by decide +kernel
theorem d_T_mark_5 : decode b_T_mark 5 = .ok (.ifCond .lt 9, 3) := by decide +kernel
theorem d_T_mark_8 : decode b_T_mark 8 = .ok (.iload_n 1, 1) := by decide +kernel
theorem d_T_mark_9 : decode b_T_mark 9 = .ok (.bipush 32, 2) := by decide +kernel
theorem d_T_mark_11 : decode b_T_mark 11 = .ok (.if_icmp .le 11, 3) := by decide +kernel
theorem d_T_mark_14 : decode b_T_mark 14 = .ok (.new 42, 3) := by decide +kernel
theorem d_T_mark_17 : decode b_T_mark 17 = .ok (.dup, 1) := by decide +kernel
theorem d_T_mark_18 : decode b_T_mark 18 = .ok (.invokespecial 44, 3) := by decide +kernel
theorem d_T_mark_21 : decode b_T_mark 21 = .ok (.athrow, 1) := by decide +kernel
theorem d_T_mark_22 : decode b_T_mark 22 = .ok (.aload_n 0, 1) := by decide +kernel
theorem d_T_mark_23 : decode b_T_mark 23 = .ok (.getfield 38, 3) := by decide +kernel
theorem d_T_mark_26 : decode b_T_mark 26 = .ok (.invokevirtual 121, 3) := by decide +kernel
theorem d_T_mark_29 : decode b_T_mark 29 = .ok (.ifCond .ne 11, 3) := by decide +kernel
theorem d_T_mark_32 : decode b_T_mark 32 = .ok (.new 125, 3) := by decide +kernel
theorem d_T_mark_35 : decode b_T_mark 35 = .ok (.dup, 1) := by decide +kernel
theorem d_T_mark_36 : decode b_T_mark 36 = .ok (.invokespecial 127, 3) := by decide +kernel
theorem d_T_mark_39 : decode b_T_mark 39 = .ok (.athrow, 1) := by decide +kernel
theorem d_T_mark_40 : decode b_T_mark 40 = .ok (.aload_n 0, 1) := by decide +kernel
theorem d_T_mark_41 : decode b_T_mark 41 = .ok (.getfield 38, 3) := by decide +kernel
theorem d_T_mark_44 : decode b_T_mark 44 = .ok (.iload_n 1, 1) := by decide +kernel
theorem d_T_mark_45 : decode b_T_mark 45 = .ok (.invokevirtual 128, 3) := by decide +kernel
theorem d_T_mark_48 : decode b_T_mark 48 = .ok (.aload_n 0, 1) := by decide +kernel
theorem d_T_mark_49 : decode b_T_mark 49 = .ok (.aload_n 0, 1) := by decide +kernel
theorem d_T_mark_50 : decode b_T_mark 50 = .ok (.getfield 112, 3) := by decide +kernel
theorem d_T_mark_53 : decode b_T_mark 53 = .ok (.putfield 131, 3) := by decide +kernel
theorem d_T_mark_56 : decode b_T_mark 56 = .ok (.return_, 1) := by decide +kernel
theorem d_T_reset_0 : decode b_T_reset 0 = .ok (.aload_n 0, 1) := by decide +kernel
theorem d_T_reset_1 : decode b_T_reset 1 = .ok (.invokevirtual 118, 3) := by decide +kernel
theorem d_T_reset_4 : decode b_T_reset 4 = .ok (.aload_n 0, 1) := by decide +kernel
theorem d_T_reset_5 : decode b_T_reset 5 = .ok (.getfield 38, 3) := by decide +kernel
theorem d_T_reset_8 : decode b_T_reset 8 = .ok (.invokevirtual 121, 3) := by decide +kernel
theorem d_T_reset_11 : decode b_T_reset 11 = .ok (.ifCond .ne 11, 3) := by decide +kernel
theorem d_T_reset_14 : decode b_T_reset 14 = .ok (.new 125, 3) := by decide +kernel
theorem d_T_reset_17 : decode b_T_reset 17 = .ok (.dup, 1) := by decide +kernel
theorem d_T_reset_18 : decode b_T_reset 18 = .ok (.invokespecial 127, 3) := by decide +kernel
theorem d_T_reset_21 : decode b_T_reset 21 = .ok (.athrow, 1) := by decide +kernel
theorem d_T_reset_22 : decode b_T_reset 22 = .ok (.aload_n 0, 1) := by decide +kernel
theorem d_T_reset_23 : decode b_T_reset 23 = .ok (.getfield 38, 3) := by decide +kernel
theorem d_T_reset_26 : decode b_T_reset 26 = .ok (.invokevirtual 134, 3) := by decide +kernel
theorem d_T_reset_29 : decode b_T_reset 29 = .ok (.ifCond .ne 11, 3) := by decide +kernel
theorem d_T_reset_32 : decode b_T_reset 32 = .ok (.new 49, 3) := by decide +kernel
theorem d_T_reset_35 : decode b_T_reset 35 = .ok (.dup, 1) := by decide +kernel
theorem d_T_reset_36 : decode b_T_reset 36 = .ok (.invokespecial 51, 3) := by decide +kernel
theorem d_T_reset_39 : decode b_T_reset 39 = .ok (.athrow, 1) := by decide +kernel
theorem d_T_reset_40 : decode b_T_reset 40 = .ok (.aload_n 0, 1) := by decide +kernel
theorem d_T_reset_41 : decode b_T_reset 41 = .ok (.getfield 38, 3) := by decide +kernel
theorem d_T_reset_44 : decode b_T_reset 44 = .ok (.invokevirtual 137, 3) := by decide +kernel
theorem d_T_reset_47 : decode b_T_reset 47 = .ok (.aload_n 0, 1) := by decide +kernel
theorem d_T_reset_48 : decode b_T_reset 48 = .ok (.aload_n 0, 1) := by decide +kernel
theorem d_T_reset_49 : decode b_T_reset 49 = .ok (.getfield 131, 3) := by decide +kernel
theorem d_T_reset_52 : decode b_T_reset 52 = .ok (.putfield 112, 3) := by decide +kernel
theorem d_T_reset_55 : decode b_T_reset 55 = .ok (.return_, 1) := by decide +kernel
theorem d_T_unread_0 : decode b_T_unread 0 = .ok (.aload_n 0, 1) := by decide +kernel
theorem d_T_unread_1 : decode b_T_unread 1 = .ok (.invokevirtual 118, 3) := by decide +kernel
theorem d_T_unread_4 : decode b_T_unread 4 = .ok (.iload_n 1, 1) := by decide +kernel
theorem d_T_unread_5 : decode b_T_unread 5 = .ok (.ifCond .lt 10, 3) := by decide +kernel
theorem d_T_unread_8 : decode b_T_unread 8 = .ok (.iload_n 1, 1) := by decide +kernel
theorem d_T_unread_9 : decode b_T_unread 9 = .ok (.sipush 255, 3) := by decide +kernel
theorem d_T_unread_12 : decode b_T_unread 12 = .ok (.if_icmp .le 11, 3) := by decide +kernel
theorem d_T_unread_15 : decode b_T_unread 15 = .ok (.new 42, 3) := by decide +kernel
theorem d_T_unread_18 : decode b_T_unread 18 = .ok (.dup, 1) := by decide +kernel
theorem d_T_unread_19 : decode b_T_unread 19 = .ok (.invokespecial 44, 3) := by decide +kernel
theorem d_T_unread_22 : decode b_T_unread 22 = .ok (.athrow, 1) := by decide +kernel
theorem d_T_unread_23 : decode b_T_unread 23 = .ok (.aload_n 0, 1) := by decide +kernel
theorem d_T_unread_24 : decode b_T_unread 24 = .ok (.getfield 38, 3) := by decide +kernel
theorem d_T_unread_27 : decode b_T_unread 27 = .ok (.instanceof 140, 3) := by decide +kernel
theorem d_T_unread_30 : decode b_T_unread 30 = .ok (.ifCond .ne 11, 3) := by decide +kernel
theorem d_T_unread_33 : decode b_T_unread 33 = .ok (.new 125, 3) := by decide +kernel
theorem d_T_unread_36 : decode b_T_unread 36 = .ok (.dup, 1) := by decide +kernel
theorem d_T_unread_37 : decode b_T_unread 37 = .ok (.invokespecial 127, 3) := by decide +kernel
theorem d_T_unread_40 : decode b_T_unread 40 = .ok (.athrow, 1) := by decide +kernel
theorem d_T_unread_41 : decode b_T_unread 41 = .ok (.aload_n 0, 1) := by decide +kernel
theorem d_T_unread_42 : decode b_T_unread 42 = .ok (.getfield 38, 3) := by decide +kernel
theorem d_T_unread_45 : decode b_T_unread 45 = .ok (.checkcast 140, 3) := by decide +kernel
theorem d_T_unread_48 : decode b_T_unread 48 = .ok (.astore_n 2, 1) := by decide +kernel
theorem d_T_unread_49 : decode b_T_unread 49 = .ok (.aload_n 2, 1) := by decide +kernel
theorem d_T_unread_50 : decode b_T_unread 50 = .ok (.iload_n 1, 1) := by decide +kernel
theorem d_T_unread_51 : decode b_T_unread 51 = .ok (.invokevirtual 142, 3) := by decide +kernel
theorem d_T_unread_54 : decode b_T_unread 54 = .ok (.ifCond .ne 11, 3) := by decide +kernel
theorem d_T_unread_57 : decode b_T_unread 57 = .ok (.new 49, 3) := by decide +kernel
theorem d_T_unread_60 : decode b_T_unread 60 = .ok (.dup, 1) := by decide +kernel
theorem d_T_unread_61 : decode b_T_unread 61 = .ok (.invokespecial 51, 3) := by decide +kernel
theorem d_T_unread_64 : decode b_T_unread 64 = .ok (.athrow, 1) := by decide +kernel
theorem d_T_unread_65 : decode b_T_unread 65 = .ok (.return_, 1) := by decide +kernel
theorem d_T_available_0 : decode b_T_available 0 = .ok (.aload_n 0, 1) := by decide +kernel
theorem d_T_available_1 : decode b_T_available 1 = .ok (.getfield 38, 3) := by decide +kernel
theorem d_T_available_4 : decode b_T_available 4 = .ok (.invokevirtual 145, 3) := by decide +kernel
theorem d_T_available_7 : decode b_T_available 7 = .ok (.ireturn, 1) := by decide +kernel
theorem d_T_close_0 : decode b_T_close 0 = .ok (.aload_n 0, 1) := by decide +kernel
theorem d_T_close_1 : decode b_T_close 1 = .ok (.iconst 1, 1) := by decide +kernel
theorem d_T_close_2 : decode b_T_close 2 = .ok (.putfield 72, 3) := by decide +kernel
theorem d_T_close_5 : decode b_T_close 5 = .ok (.return_, 1) := by decide +kernel
theorem d_T_about_0 : decode b_T_about 0 = .ok (.iload_n 1, 1) := by decide +kernel
theorem d_T_about_1 : decode b_T_about 1 = .ok (.iconst (-1), 1) := by decide +kernel
theorem d_T_about_2 : decode b_T_about 2 = .ok (.if_icmp .ne 11, 3) := by decide +kernel
theorem d_T_about_5 : decode b_T_about 5 = .ok (.aload_n 0, 1) := by decide +kernel
theorem d_T_about_6 : decode b_T_about 6 = .ok (.getfield 12, 3) := by decide +kernel
theorem d_T_about_9 : decode b_T_about 9 = .ok (.invokevirtual 149, 3) := by decide +kernel
theorem d_T_about_12 : decode b_T_about 12 = .ok (.ireturn, 1) := by decide +kernel
theorem d_T_about_13 : decode b_T_about 13 = .ok (.iload_n 1, 1) := by decide +kernel
theorem d_T_about_14 : decode b_T_about 14 = .ok (.ifCond .lt 12, 3) := by decide +kernel
theorem d_T_about_17 : decode b_T_about 17 = .ok (.iload_n 1, 1) := by decide +kernel
theorem d_T_about_18 : decode b_T_about 18 = .ok (.aload_n 0, 1) := by decide +kernel
theorem d_T_about_19 : decode b_T_about 19 = .ok (.getfield 18, 3) := by decide +kernel
theorem d_T_about_22 : decode b_T_about 22 = .ok (.arraylength, 1) := by decide +kernel
theorem d_T_about_23 : decode b_T_about 23 = .ok (.if_icmp .lt 5, 3) := by decide +kernel
theorem d_T_about_26 : decode b_T_about 26 = .ok (.iconst (-1), 1) := by decide +kernel
theorem d_T_about_27 : decode b_T_about 27 = .ok (.ireturn, 1) := by decide +kernel
theorem d_T_about_28 : decode b_T_about 28 = .ok (.aload_n 0, 1) := by decide +kernel
theorem d_T_about_29 : decode b_T_about 29 = .ok (.getfield 18, 3) := by decide +kernel
theorem d_T_about_32 : decode b_T_about 32 = .ok (.iload_n 1, 1) := by decide +kernel
theorem d_T_about_33 : decode b_T_about 33 = .ok (.aaload, 1) := by decide +kernel
theorem d_T_about_34 : decode b_T_about 34 = .ok (.astore_n 2, 1) := by decide +kernel
theorem d_T_about_35 : decode b_T_about 35 = .ok (.aload_n 2, 1) := by decide +kernel
theorem d_T_about_36 : decode b_T_about 36 = .ok (.ifnonnull 7, 3) := by decide +kernel
theorem d_T_about_39 : decode b_T_about 39 = .ok (.iconst (-1), 1) := by decide +kernel
theorem d_T_about_40 : decode b_T_about 40 = .ok (.goto 7, 3) := by decide +kernel
theorem d_T_about_43 : decode b_T_about 43 = .ok (.aload_n 2, 1) := by decide +kernel
theorem d_T_about_44 : decode b_T_about 44 = .ok (.invokevirtual 152, 3) := by decide +kernel
theorem d_T_about_47 : decode b_T_about 47 = .ok (.ireturn, 1) := by decide +kernel
theorem d_T_rowOf_0 : decode b_T_rowOf 0 = .ok (.iload_n 1, 1) := by decide +kernel
theorem d_T_rowOf_1 : decode b_T_rowOf 1 = .ok (.ifCond .eq 10, 3) := by decide +kernel
theorem d_T_rowOf_4 : decode b_T_rowOf 4 = .ok (.aload_n 0, 1) := by decide +kernel
theorem d_T_rowOf_5 : decode b_T_rowOf 5 = .ok (.getfield 35, 3) := by decide +kernel
theorem d_T_rowOf_8 : decode b_T_rowOf 8 = .ok (.goto 7, 3) := by decide +kernel
theorem d_T_rowOf_11 : decode b_T_rowOf 11 = .ok (.aload_n 0, 1) := by decide +kernel
theorem d_T_rowOf_12 : decode b_T_rowOf 12 = .ok (.getfield 31, 3) := by decide +kernel
theorem d_T_rowOf_15 : decode b_T_rowOf 15 = .ok (.areturn, 1) := by decide +kernel
theorem d_T_size_0 : decode b_T_size 0 = .ok (.aload_n 0, 1) := by decide +kernel
theorem d_T_size_1 : decode b_T_size 1 = .ok (.iload_n 1, 1) := by decide +kernel
theorem d_T_size_2 : decode b_T_size 2 = .ok (.invokevirtual 153, 3) := by decide +kernel
theorem d_T_size_5 : decode b_T_size 5 = .ok (.getfield 111, 3) := by decide +kernel
theorem d_T_size_8 : decode b_T_size 8 = .ok (.ireturn, 1) := by decide +kernel
theorem d_T_at_0 : decode b_T_at 0 = .ok (.aload_n 0, 1) := by decide +kernel
theorem d_T_at_1 : decode b_T_at 1 = .ok (.iload_n 2, 1) := by decide +kernel
theorem d_T_at_2 : decode b_T_at 2 = .ok (.invokevirtual 153, 3) := by decide +kernel
theorem d_T_at_5 : decode b_T_at 5 = .ok (.iload_n 1, 1) := by decide +kernel
theorem d_T_at_6 : decode b_T_at 6 = .ok (.invokevirtual 94, 3) := by decide +kernel
theorem d_T_at_9 : decode b_T_at 9 = .ok (.ireturn, 1) := by decide +kernel
theorem md_T_number : md_Ok y_T_number (.code y_T_number b_T_number 2 (some .long)) 2 := ⟨wd_545, wd_1, ⟨by decide, by decide⟩, Or.inl ⟨_, _, rfl⟩⟩
theorem ml_T_number : (parseMethodDescriptor y_T_number.desc).map (fun d => d.parameters.length) = some 1 := by decide +kernel
theorem md_T_widthByFirstByte : md_Ok y_T_widthByFirstByte (.code y_T_widthByFirstByte b_T_widthByFirstByte 1 (some .int)) 1 := ⟨wd_565, wd_1, ⟨by decide, by decide⟩, Or.inl ⟨_, _, rfl⟩⟩
theorem ml_T_widthByFirstByte : (parseMethodDescriptor y_T_widthByFirstByte.desc).map (fun d => d.parameters.length) = some 1 := by decide +kernel
theorem fl_T_111 : fl_Ok "StreamTower" 111 "StreamTower$Row" "count" "I" "StreamTower$Row" [1] 1 false (.int) := ⟨wd_67, by decide +kernel, Or.inl rfl, fun t ht => by obtain rfl := List.mem_singleton.mp ht; exact ⟨_, _, _, rfl, by decide, rfl⟩⟩
theorem md_T_letterWidth : md_Ok y_T_letterWidth (.code y_T_letterWidth b_T_letterWidth 4 (some .int)) 4 := ⟨wd_562, wd_1, ⟨by decide, by decide⟩, Or.inl ⟨_, _, rfl⟩⟩
theorem ml_T_letterWidth : (parseMethodDescriptor y_T_letterWidth.desc).map (fun d => d.parameters.length) = some 2 := by decide +kernel
theorem md_T_holdsJustLetters : md_Ok y_T_holdsJustLetters (.code y_T_holdsJustLetters b_T_holdsJustLetters 4 (some .boolean)) 4 := ⟨wd_559, wd_1, ⟨by decide, by decide⟩, Or.inl ⟨_, _, rfl⟩⟩
theorem ml_T_holdsJustLetters : (parseMethodDescriptor y_T_holdsJustLetters.desc).map (fun d => d.parameters.length) = some 2 := by decide +kernel
theorem md_T_letterOf : md_Ok y_T_letterOf (.code y_T_letterOf b_T_letterOf 6 (some .int)) 6 := ⟨wd_572, wd_1, ⟨by decide, by decide⟩, Or.inl ⟨_, _, rfl⟩⟩
theorem ml_T_letterOf : (parseMethodDescriptor y_T_letterOf.desc).map (fun d => d.parameters.length) = some 3 := by decide +kernel
theorem md_T_takeLetters : md_Ok y_T_takeLetters (.code y_T_takeLetters b_T_takeLetters 3 none) 3 := ⟨wd_569, wd_1, ⟨by decide, by decide⟩, Or.inl ⟨_, _, rfl⟩⟩
theorem ml_T_takeLetters : (parseMethodDescriptor y_T_takeLetters.desc).map (fun d => d.parameters.length) = some 0 := by decide +kernel
theorem md_T_text : md_Ok y_T_text (.code y_T_text b_T_text 2 (some .int)) 2 := ⟨wd_556, wd_1, ⟨by decide, by decide⟩, Or.inl ⟨_, _, rfl⟩⟩
theorem ml_T_text : (parseMethodDescriptor y_T_text.desc).map (fun d => d.parameters.length) = some 0 := by decide +kernel
theorem md_T_line : md_Ok y_T_line (.code y_T_line b_T_line 4 (some .int)) 4 := ⟨wd_580, wd_1, ⟨by decide, by decide⟩, Or.inl ⟨_, _, rfl⟩⟩
theorem ml_T_line : (parseMethodDescriptor y_T_line.desc).map (fun d => d.parameters.length) = some 0 := by decide +kernel
theorem fl_T_131 : fl_Ok "StreamTower" 131 "StreamTower" "leftOutLineFeedAtMark" "Z" "StreamTower" [0] 9 false (.boolean) := ⟨wd_82, by decide +kernel, Or.inl rfl, fun t ht => by obtain rfl := List.mem_singleton.mp ht; exact ⟨_, _, _, rfl, by decide, rfl⟩⟩
theorem tha_T_125 : ∀ w ∈ Bundle.ownAtoms0 "StreamTower" 127 "java/lang/UnsupportedOperationException" ["java/lang/RuntimeException", "java/lang/Exception"], th_W w := by
  intro w hw
  rcases List.mem_cons.mp hw with rfl | hw
  · exact Or.inl wd_6
  rcases List.mem_cons.mp hw with rfl | hw
  · exact Or.inl wd_232
  rcases List.mem_cons.mp hw with rfl | hw
  · exact Or.inl wd_241
  rcases List.mem_cons.mp hw with rfl | hw
  · exact Or.inl wd_246
  rcases List.mem_cons.mp hw with rfl | hw
  · exact Or.inl wd_249
  rcases List.mem_cons.mp hw with rfl | hw
  · exact Or.inl wd_251
  rcases List.mem_cons.mp hw with rfl | hw
  · exact Or.inl wd_233
  rcases List.mem_cons.mp hw with rfl | hw
  · exact Or.inl wd_234
  rcases List.mem_cons.mp hw with rfl | hw
  · exact Or.inl wd_27
  rcases List.mem_cons.mp hw with rfl | hw
  · exact Or.inl wd_28
  rcases List.mem_cons.mp hw with rfl | hw
  · exact Or.inl wd_235
  rcases List.mem_cons.mp hw with rfl | hw
  · exact Or.inl wd_240
  rcases List.mem_cons.mp hw with rfl | hw
  · exact Or.inl wd_247
  rcases List.mem_cons.mp hw with rfl | hw
  · exact Or.inl wd_263
  rcases List.mem_cons.mp hw with rfl | hw
  · exact Or.inl wd_222
  rcases List.mem_cons.mp hw with rfl | hw
  · exact Or.inl wd_264
  rcases List.mem_cons.mp hw with rfl | hw
  · exact Or.inl wd_224
  rcases List.mem_cons.mp hw with rfl | hw
  · exact Or.inl wd_265
  rcases List.mem_cons.mp hw with rfl | hw
  · exact Or.inl wd_226
  rcases List.mem_cons.mp hw with rfl | hw
  · exact Or.inl wd_236
  rcases List.mem_cons.mp hw with rfl | hw
  · exact Or.inr (Or.inl ⟨List.mem_append_right _ (List.mem_of_getElem? (i := 237) rfl), _, _, _, rfl⟩)
  rcases List.mem_cons.mp hw with rfl | hw
  · exact Or.inl wd_238
  rcases List.mem_cons.mp hw with rfl | hw
  · exact Or.inr (Or.inl ⟨List.mem_append_right _ (List.mem_of_getElem? (i := 239) rfl), _, _, _, rfl⟩)
  rcases List.mem_cons.mp hw with rfl | hw
  · exact Or.inl wd_228
  rcases List.mem_cons.mp hw with rfl | hw
  · exact Or.inl wd_614
  rcases List.mem_cons.mp hw with rfl | hw
  · exact Or.inl wd_615
  rcases List.mem_cons.mp hw with rfl | hw
  · exact Or.inl wd_616
  rcases List.mem_cons.mp hw with rfl | hw
  · exact Or.inl wd_256
  rcases List.mem_cons.mp hw with rfl | hw
  · exact Or.inl wd_213
  rcases List.mem_cons.mp hw with rfl | hw
  · exact Or.inl wd_256
  rcases List.mem_cons.mp hw with rfl | hw
  · exact Or.inl wd_257
  rcases List.mem_cons.mp hw with rfl | hw
  · exact Or.inl wd_258
  rcases List.mem_cons.mp hw with rfl | hw
  · exact Or.inl wd_259
  rcases List.mem_cons.mp hw with rfl | hw
  · exact Or.inl wd_215
  rcases List.mem_cons.mp hw with rfl | hw
  · exact Or.inl wd_259
  rcases List.mem_cons.mp hw with rfl | hw
  · exact Or.inl wd_260
  rcases List.mem_cons.mp hw with rfl | hw
  · exact Or.inl wd_261
  rcases List.mem_cons.mp hw with rfl | hw
  · exact Or.inl wd_233
  rcases List.mem_cons.mp hw with rfl | hw
  · exact Or.inl wd_217
  rcases List.mem_cons.mp hw with rfl | hw
  · exact Or.inl wd_613
  rcases List.mem_cons.mp hw with rfl | hw
  · exact Or.inl wd_605
  rcases List.mem_cons.mp hw with rfl | hw
  · exact Or.inl wd_606
  rcases List.mem_cons.mp hw with rfl | hw
  · exact Or.inl wd_607
  rcases List.mem_cons.mp hw with rfl | hw
  · exact Or.inl wd_244
  rcases List.mem_cons.mp hw with rfl | hw
  · exact Or.inl wd_608
  rcases List.mem_cons.mp hw with rfl | hw
  · exact Or.inl wd_609
  rcases List.mem_cons.mp hw with rfl | hw
  · exact Or.inl wd_610
  rcases List.mem_cons.mp hw with rfl | hw
  · exact Or.inl wd_611
  rcases List.mem_cons.mp hw with rfl | hw
  · exact Or.inr (Or.inr (Or.inl rfl))
  rcases List.mem_cons.mp hw with rfl | hw
  · exact Or.inr (Or.inr (Or.inr rfl))
  rcases List.mem_cons.mp hw with rfl | hw
  · exact Or.inl wd_231
  rcases List.mem_cons.mp hw with rfl | hw
  · exact Or.inl wd_230
  rcases List.mem_cons.mp hw with rfl | hw
  · exact Or.inl wd_612
  cases hw
theorem md_T_mark : md_Ok y_T_mark (.code y_T_mark b_T_mark 2 none) 2 := ⟨wd_588, wd_1, ⟨by decide, by decide⟩, Or.inl ⟨_, _, rfl⟩⟩
theorem ml_T_mark : (parseMethodDescriptor y_T_mark.desc).map (fun d => d.parameters.length) = some 1 := by decide +kernel
theorem md_T_reset : md_Ok y_T_reset (.code y_T_reset b_T_reset 1 none) 1 := ⟨wd_652, wd_1, ⟨by decide, by decide⟩, Or.inl ⟨_, _, rfl⟩⟩
theorem ml_T_reset : (parseMethodDescriptor y_T_reset.desc).map (fun d => d.parameters.length) = some 0 := by decide +kernel
theorem ct_T_140 : tg_Ok "StreamTower$Pushback" [4] := fun t ht => by obtain rfl := List.mem_singleton.mp ht; exact ⟨_, _, _, rfl, wd_948⟩
theorem md_T_unread : md_Ok y_T_unread (.code y_T_unread b_T_unread 3 none) 3 := ⟨wd_701, wd_1, ⟨by decide, by decide⟩, Or.inl ⟨_, _, rfl⟩⟩
theorem ml_T_unread : (parseMethodDescriptor y_T_unread.desc).map (fun d => d.parameters.length) = some 1 := by decide +kernel
theorem md_T_available : md_Ok y_T_available (.code y_T_available b_T_available 1 (some .int)) 1 := ⟨wd_127, wd_1, ⟨by decide, by decide⟩, Or.inl ⟨_, _, rfl⟩⟩
theorem ml_T_available : (parseMethodDescriptor y_T_available.desc).map (fun d => d.parameters.length) = some 0 := by decide +kernel
theorem md_T_close : md_Ok y_T_close (.code y_T_close b_T_close 1 none) 1 := ⟨wd_157, wd_1, ⟨by decide, by decide⟩, Or.inl ⟨_, _, rfl⟩⟩
theorem ml_T_close : (parseMethodDescriptor y_T_close.desc).map (fun d => d.parameters.length) = some 0 := by decide +kernel
theorem xl_state : (parseMethodDescriptor xn_state.desc).map (fun d => d.parameters.length) = some 0 := by decide +kernel
theorem md_T_about : md_Ok y_T_about (.code y_T_about b_T_about 3 (some .int)) 3 := ⟨wd_161, wd_1, ⟨by decide, by decide⟩, Or.inl ⟨_, _, rfl⟩⟩
theorem ml_T_about : (parseMethodDescriptor y_T_about.desc).map (fun d => d.parameters.length) = some 1 := by decide +kernel
theorem md_T_rowOf : md_Ok y_T_rowOf (.code y_T_rowOf b_T_rowOf 2 (some (.object "StreamTower$Row"))) 2 := ⟨wd_192, wd_1, ⟨by decide, by decide⟩, Or.inl ⟨_, _, rfl⟩⟩
theorem ml_T_rowOf : (parseMethodDescriptor y_T_rowOf.desc).map (fun d => d.parameters.length) = some 1 := by decide +kernel
theorem md_T_size : md_Ok y_T_size (.code y_T_size b_T_size 2 (some .int)) 2 := ⟨wd_188, wd_1, ⟨by decide, by decide⟩, Or.inl ⟨_, _, rfl⟩⟩
theorem ml_T_size : (parseMethodDescriptor y_T_size.desc).map (fun d => d.parameters.length) = some 1 := by decide +kernel
theorem md_T_at : md_Ok y_T_at (.code y_T_at b_T_at 3 (some .int)) 3 := ⟨wd_196, wd_1, ⟨by decide, by decide⟩, Or.inl ⟨_, _, rfl⟩⟩
theorem ml_T_at : (parseMethodDescriptor y_T_at.desc).map (fun d => d.parameters.length) = some 2 := by decide +kernel
def f_T_number_b15 (h0 : Hs_t) : Rs_t := th_N 9 h0
def f_T_number (t0 : Nat) (x1 : Int32) (h0 : Hs_t) : Rs_t := (ck_T [0] h0 t0).bind fun _ => bd_V (f_T_startReading t0 h0) (fun h1 => if x1 < 1 then (f_T_number_b15 h1) else (if x1 ≤ 8 then ((ck_T [0] h1 t0).bind fun _ => bd_V (f_T_readAll t0 x1 h1) (fun h2 => (ck_T [0] h2 t0).bind fun _ => bd_L (f_T_numberInBag t0 x1 h2) (fun v1 h3 => re_L v1 h3))) else (f_T_number_b15 h1)))
set_option maxRecDepth 100000 in
set_option maxHeartbeats 4000000 in
theorem k_T_number_b15 {p : Program} {l : Launch} {e : Env} {s : State} {m : MethodId} {args : Array Value} {below : List Frame} {meth : Method} {c : Code} {s0 : State} {A0 : Array Value} {G : Gx_t} {r : Outcome × Hs_t} {rm : Room} (hc : Cx_t p s m meth c s0 A0 l G y_T_number b_T_number 2 (some .long) []) (hrm : rm_Ok 2 12 83 1675 rm) : ∀  (h0 : Hs_t) (H : Heap) (locs : List Loc) (ls : Array Slot), Rp_h G s0.heap h0 H → Lo_k s0 locs → lv_has ls 2 [] → f_T_number_b15  h0 = some r → W p l e rm s m args below meth c H locs 1 6 (xq_MQ G s0 below r s rm.cells rm.slots) (F0 m 15 ls []) := by
  have hx := hc.x
  have hb := hc.b
  obtain ⟨hm1, hm2, hm3, hm4⟩ := id hrm
  intro  h0 H locs ls hR hLo hl heq
  unfold f_T_number_b15 at heq
  exact x_thr (names := ["java/lang/RuntimeException", "java/lang/Exception"]) hc hR hLo rfl (by decide +kernel) (by decide +kernel) wd_210 wd_9 tha_T_42 hl.1 d_T_number_15 d_T_number_18 d_T_number_19 d_T_number_22 ⟨by omega, by omega⟩ (by show 2 + 3 < _; omega) (by show 0 + (13 * (2 + 1) + 42) ≤ _; omega) heq
set_option maxRecDepth 100000 in
set_option maxHeartbeats 4000000 in
theorem c_T_number {l : Launch} {s0 : State} {A0 : Array Value} {G : Gx_t} (hG : G_0 l s0 A0 G) (rm : Room) (hrm : rm_Ok 2 12 83 1675 rm) (t0 : Nat) (x1 : Int32) (h0 : Hs_t) (r : Outcome × Hs_t) (heq : f_T_number t0 x1 h0 = some r) : M_X G s0 l y_T_number (.code y_T_number b_T_number 2 (some .long)) rm [.ref t0, .int x1] h0 r := by
  refine M_X.of (by decide) hG (fun p e s m below meth c H hc hR => ?_)
  have hx := hc.x
  have hb := hc.b
  obtain ⟨hm1, hm2, hm3, hm4⟩ := id hrm
  have hLo : Lo_k s0 [] := fun _ hq => absurd hq List.not_mem_nil
  have hl := lv_entry ([.ref t0, .int x1]) (n := 2) (Nat.le_of_ble_eq_true rfl)
  rw [lg_entry_eq]
  generalize (lg_sl ([.ref t0, .int x1]) ++ List.replicate (2 - (lg_sl ([.ref t0, .int x1])).length) Slot.unset).toArray = ls at hl ⊢
  have hl : lv_has ls 2 [(0, .ref t0), (1, .int x1)] := hl
  generalize hle : ([] : List Loc) = locs at hLo ⊢
  unfold f_T_number at heq
  refine lv_aload_n hx hb d_T_number_0 rfl (lv_at hl 0 rfl) ?_
  refine x_ck heq (fun tt fs ha ht heq => ?_)
  obtain rfl : tt = 0 := by simpa using ht
  refine x_bV (mc := 1) (ms := 6) (st := []) hc hLo heq ⟨by omega, by omega⟩ (fun r9 h9 => x_runV hc (c_T_startReading hc.g rm_T_startReading rk_T_startReading _ _ _ h9) md_T_startReading hR ha rfl wd_427 wd_429 sp_2 hl.1 ml_T_startReading rfl (Nat.le_of_ble_eq_true rfl) d_T_number_1 ⟨by show 7 + 1 ≤ _; omega, by show 8 + (1 + 11) + (101) ≤ _; omega⟩ ⟨by show 0 + 1 ≤ _; omega, by show 0 + 6 ≤ _; omega⟩) (fun h1 H locs hR hLo heq => ?_)
  refine lv_iload_n hx hb d_T_number_4 rfl (lv_at hl 1 rfl) ?_
  refine lv_iconst (v := 1) hx hb d_T_number_5 (by decide) ?_
  refine lv_icmp_lt (tgt := 15) hx hb d_T_number_6 rfl (fun hq => ?_) (fun hq => ?_)
  · rw [if_pos hq] at heq
    refine W.widen (k := 1) (n := 6) (by omega) (by omega) ?_
    exact k_T_number_b15 hc hrm h1 H locs ls hR hLo (lv_sub hl [] rfl) heq
  · rw [if_neg hq] at heq
    refine lv_iload_n hx hb d_T_number_9 rfl (lv_at hl 1 rfl) ?_
    refine lv_bipush (v := 8) hx hb d_T_number_10 (by decide) ?_
    refine lv_icmp_le (tgt := 23) hx hb d_T_number_12 rfl (fun hq => ?_) (fun hq => ?_)
    · rw [if_pos hq] at heq
      refine lv_aload_n hx hb d_T_number_23 rfl (lv_at hl 0 rfl) ?_
      refine lv_iload_n hx hb d_T_number_24 rfl (lv_at hl 1 rfl) ?_
      refine x_ck heq (fun tt fs ha ht heq => ?_)
      obtain rfl : tt = 0 := by simpa using ht
      refine x_bV (mc := 1) (ms := 6) (st := []) hc hLo heq ⟨by omega, by omega⟩ (fun r9 h9 => x_runV hc (c_T_readAll hc.g rm_T_readAll rk_T_readAll _ _ _ _ h9) md_T_readAll hR ha rfl wd_513 wd_515 sp_8 hl.1 ml_T_readAll rfl (Nat.le_of_ble_eq_true rfl) d_T_number_25 ⟨by show 82 + 1 ≤ _; omega, by show 8 + (5 + 11) + (1651) ≤ _; omega⟩ ⟨by show 1 + 1 ≤ _; omega, by show 6 + 6 ≤ _; omega⟩) (fun h2 H locs hR hLo heq => ?_)
      refine lv_aload_n hx hb d_T_number_28 rfl (lv_at hl 0 rfl) ?_
      refine lv_iload_n hx hb d_T_number_29 rfl (lv_at hl 1 rfl) ?_
      refine x_ck heq (fun tt fs ha ht heq => ?_)
      obtain rfl : tt = 0 := by simpa using ht
      refine x_bL (mc := 0) (ms := 0) (st := []) hc hLo heq ⟨by omega, by omega⟩ (fun r9 h9 => x_runV hc (c_T_numberInBag hc.g rm_T_numberInBag rk_T_numberInBag _ _ _ _ h9) md_T_numberInBag hR ha rfl wd_546 wd_548 sp_9 hl.1 ml_T_numberInBag rfl (Nat.le_of_ble_eq_true rfl) d_T_number_30 ⟨by show 1 + 1 ≤ _; omega, by show 8 + (5 + 11) + (21) ≤ _; omega⟩ ⟨by show 2 + 0 ≤ _; omega, by show 12 + 0 ≤ _; omega⟩) (fun v1 h3 H locs hR hLo heq => ?_)
      exact x_lret hc hR hLo ⟨by omega, by omega⟩ heq d_T_number_33
    · rw [if_neg hq] at heq
      refine W.widen (k := 1) (n := 6) (by omega) (by omega) ?_
      exact k_T_number_b15 hc hrm h1 H locs ls hR hLo (lv_sub hl [] rfl) heq
def rm_T_number : Room := { frames := 83, cells := 2, slots := 12, locals := 1675 }
theorem rk_T_number : rm_Ok 2 12 83 1675 rm_T_number := ⟨Nat.le_refl _, Nat.le_refl _, Nat.le_refl _, Nat.le_refl _⟩
def f_T_widthByFirstByte_b38 (sv0 : Int32) (h0 : Hs_t) : Rs_t := re_I sv0 h0
def f_T_widthByFirstByte (x0 : Int32) (h0 : Hs_t) : Rs_t := if 128 ≤ x0 then (if (x0 &&& 224) = 192 then (re_I 2 h0) else (if (x0 &&& 240) = 224 then (f_T_widthByFirstByte_b38 3 h0) else (f_T_widthByFirstByte_b38 0 h0))) else (re_I 1 h0)
set_option maxRecDepth 100000 in
set_option maxHeartbeats 4000000 in
theorem k_T_widthByFirstByte_b38 {p : Program} {l : Launch} {e : Env} {s : State} {m : MethodId} {args : Array Value} {below : List Frame} {meth : Method} {c : Code} {s0 : State} {A0 : Array Value} {G : Gx_t} {r : Outcome × Hs_t} {rm : Room} (hc : Cx_t p s m meth c s0 A0 l G y_T_widthByFirstByte b_T_widthByFirstByte 1 (some .int) []) (hrm : rm_Ok 0 0 0 0 rm) : ∀ (sv0 : Int32) (h0 : Hs_t) (H : Heap) (locs : List Loc) (ls : Array Slot), Rp_h G s0.heap h0 H → Lo_k s0 locs → lv_has ls 1 [] → f_T_widthByFirstByte_b38 sv0 h0 = some r → W p l e rm s m args below meth c H locs 0 0 (xq_MQ G s0 below r s rm.cells rm.slots) (F0 m 38 ls [.int sv0]) := by
  have hx := hc.x
  have hb := hc.b
  obtain ⟨hm1, hm2, hm3, hm4⟩ := id hrm
  intro sv0 h0 H locs ls hR hLo hl heq
  unfold f_T_widthByFirstByte_b38 at heq
  exact x_iret hc hR hLo ⟨by omega, by omega⟩ heq d_T_widthByFirstByte_38
set_option maxRecDepth 100000 in
set_option maxHeartbeats 4000000 in
theorem c_T_widthByFirstByte {l : Launch} {s0 : State} {A0 : Array Value} {G : Gx_t} (hG : G_0 l s0 A0 G) (rm : Room) (hrm : rm_Ok 0 0 0 0 rm) (x0 : Int32) (h0 : Hs_t) (r : Outcome × Hs_t) (heq : f_T_widthByFirstByte x0 h0 = some r) : M_X G s0 l y_T_widthByFirstByte (.code y_T_widthByFirstByte b_T_widthByFirstByte 1 (some .int)) rm [.int x0] h0 r := by
  refine M_X.of (by decide) hG (fun p e s m below meth c H hc hR => ?_)
  have hx := hc.x
  have hb := hc.b
  obtain ⟨hm1, hm2, hm3, hm4⟩ := id hrm
  have hLo : Lo_k s0 [] := fun _ hq => absurd hq List.not_mem_nil
  have hl := lv_entry ([.int x0]) (n := 1) (Nat.le_of_ble_eq_true rfl)
  rw [lg_entry_eq]
  generalize (lg_sl ([.int x0]) ++ List.replicate (1 - (lg_sl ([.int x0])).length) Slot.unset).toArray = ls at hl ⊢
  have hl : lv_has ls 1 [(0, .int x0)] := hl
  generalize hle : ([] : List Loc) = locs at hLo ⊢
  unfold f_T_widthByFirstByte at heq
  refine lv_iload_n hx hb d_T_widthByFirstByte_0 rfl (lv_at hl 0 rfl) ?_
  refine lv_sipush (v := 128) hx hb d_T_widthByFirstByte_1 (by decide) ?_
  refine lv_icmp_ge (tgt := 9) hx hb d_T_widthByFirstByte_4 rfl (fun hq => ?_) (fun hq => ?_)
  · rw [if_pos hq] at heq
    refine lv_iload_n hx hb d_T_widthByFirstByte_9 rfl (lv_at hl 0 rfl) ?_
    refine lv_sipush (v := 224) hx hb d_T_widthByFirstByte_10 (by decide) ?_
    refine lv_iand hx hb d_T_widthByFirstByte_13 ?_
    refine lv_sipush (v := 192) hx hb d_T_widthByFirstByte_14 (by decide) ?_
    refine lv_icmp_ne (tgt := 22) hx hb d_T_widthByFirstByte_17 rfl (fun hq => ?_) (fun hq => ?_)
    · rw [if_neg hq] at heq
      refine lv_iload_n hx hb d_T_widthByFirstByte_22 rfl (lv_at hl 0 rfl) ?_
      refine lv_sipush (v := 240) hx hb d_T_widthByFirstByte_23 (by decide) ?_
      refine lv_iand hx hb d_T_widthByFirstByte_26 ?_
      refine lv_sipush (v := 224) hx hb d_T_widthByFirstByte_27 (by decide) ?_
      refine lv_icmp_ne (tgt := 37) hx hb d_T_widthByFirstByte_30 rfl (fun hq => ?_) (fun hq => ?_)
      · rw [if_neg hq] at heq
        refine lv_iconst (v := 0) hx hb d_T_widthByFirstByte_37 (by decide) ?_
        refine W.widen (k := 0) (n := 0) (by omega) (by omega) ?_
        exact k_T_widthByFirstByte_b38 hc hrm 0 h0 H locs ls hR hLo (lv_sub hl [] rfl) heq
      · rw [if_pos hq] at heq
        refine lv_iconst (v := 3) hx hb d_T_widthByFirstByte_33 (by decide) ?_
        refine lv_goto (tgt := 38) hx hb d_T_widthByFirstByte_34 rfl ?_
        refine W.widen (k := 0) (n := 0) (by omega) (by omega) ?_
        exact k_T_widthByFirstByte_b38 hc hrm 3 h0 H locs ls hR hLo (lv_sub hl [] rfl) heq
    · rw [if_pos hq] at heq
      refine lv_iconst (v := 2) hx hb d_T_widthByFirstByte_20 (by decide) ?_
      exact x_iret hc hR hLo ⟨by omega, by omega⟩ heq d_T_widthByFirstByte_21
  · rw [if_neg hq] at heq
    refine lv_iconst (v := 1) hx hb d_T_widthByFirstByte_7 (by decide) ?_
    exact x_iret hc hR hLo ⟨by omega, by omega⟩ heq d_T_widthByFirstByte_8
def rm_T_widthByFirstByte : Room := { frames := 0, cells := 0, slots := 0, locals := 0 }
theorem rk_T_widthByFirstByte : rm_Ok 0 0 0 0 rm_T_widthByFirstByte := ⟨Nat.le_refl _, Nat.le_refl _, Nat.le_refl _, Nat.le_refl _⟩
def f_T_letterWidth_b23 : Nat → Nat → Int32 → Int32 → Int32 → Hs_t → Rs_t
  | 0, _, _, _, _, _ => none
  | n + 1, x0, x1, x2, x3, h0 => if x2 ≤ x3 then (re_I x2 h0) else ((ck_T [1] h0 x0).bind fun _ => bd_I (f_Row_get x0 (x1 + x3) h0) (fun v4 h3 => if (v4 &&& 192) = 128 then ((f_T_letterWidth_b23 n) x0 x1 x2 (x3 + 1) h3) else (re_I 0 h3)))
def f_T_letterWidth (x0 : Nat) (x1 : Int32) (h0 : Hs_t) : Rs_t := (ck_T [1] h0 x0).bind fun _ => bd_I (f_Row_get x0 x1 h0) (fun v1 h1 => bd_I (f_T_widthByFirstByte v1 h1) (fun v2 h2 => (fd_I [1] 1 h2 x0).bind fun v3 => if (x1 + v2) ≤ v3 then (f_T_letterWidth_b23 fu_N x0 x1 v2 1 h2) else (re_I 0 h2)))
set_option maxRecDepth 100000 in
set_option maxHeartbeats 4000000 in
theorem k_T_letterWidth_b23 {p : Program} {l : Launch} {e : Env} {s : State} {m : MethodId} {args : Array Value} {below : List Frame} {meth : Method} {c : Code} {s0 : State} {A0 : Array Value} {G : Gx_t} {r : Outcome × Hs_t} {rm : Room} (hc : Cx_t p s m meth c s0 A0 l G y_T_letterWidth b_T_letterWidth 4 (some .int) []) (hrm : rm_Ok 0 0 1 21 rm) : ∀ (n : Nat) (x0 : Nat) (x1 : Int32) (x2 : Int32) (x3 : Int32) (h0 : Hs_t) (H : Heap) (locs : List Loc) (ls : Array Slot), Rp_h G s0.heap h0 H → Lo_k s0 locs → lv_has ls 4 [(0, .ref x0), (1, .int x1), (2, .int x2), (3, .int x3)] → f_T_letterWidth_b23 n x0 x1 x2 x3 h0 = some r → W p l e rm s m args below meth c H locs 0 0 (xq_MQ G s0 below r s rm.cells rm.slots) (F0 m 23 ls []) := by
  have hx := hc.x
  have hb := hc.b
  obtain ⟨hm1, hm2, hm3, hm4⟩ := id hrm
  intro n
  induction n with
  | zero =>
    intro x0 x1 x2 x3 h0 H locs ls hR hLo hl heq
    unfold f_T_letterWidth_b23 at heq
    cases heq
  | succ n hr23 =>
    intro x0 x1 x2 x3 h0 H locs ls hR hLo hl heq
    unfold f_T_letterWidth_b23 at heq
    refine lv_iload_n hx hb d_T_letterWidth_23 rfl (lv_at hl 3 rfl) ?_
    refine lv_iload_n hx hb d_T_letterWidth_24 rfl (lv_at hl 2 rfl) ?_
    refine lv_icmp_ge (tgt := 53) hx hb d_T_letterWidth_25 rfl (fun hq => ?_) (fun hq => ?_)
    · rw [if_pos hq] at heq
      refine lv_iload_n hx hb d_T_letterWidth_53 rfl (lv_at hl 2 rfl) ?_
      exact x_iret hc hR hLo ⟨by omega, by omega⟩ heq d_T_letterWidth_54
    · rw [if_neg hq] at heq
      refine lv_aload_n hx hb d_T_letterWidth_28 rfl (lv_at hl 0 rfl) ?_
      refine lv_iload_n hx hb d_T_letterWidth_29 rfl (lv_at hl 1 rfl) ?_
      refine lv_iload_n hx hb d_T_letterWidth_30 rfl (lv_at hl 3 rfl) ?_
      refine lv_iadd hx hb d_T_letterWidth_31 ?_
      refine x_ck heq (fun tt fs ha ht heq => ?_)
      obtain rfl : tt = 1 := by simpa using ht
      refine x_bI (mc := 0) (ms := 0) (st := []) hc hLo heq ⟨by omega, by omega⟩ (fun r9 h9 => x_runV hc (c_Row_get hc.g rm_Row_get rk_Row_get _ _ _ _ h9) md_Row_get hR ha rfl wd_197 wd_198 wd_199 hl.1 ml_Row_get rfl (Nat.le_of_ble_eq_true rfl) d_T_letterWidth_32 ⟨by show 0 + 1 ≤ _; omega, by show 8 + (2 + 11) + (0) ≤ _; omega⟩ ⟨by show 0 + 0 ≤ _; omega, by show 0 + 0 ≤ _; omega⟩) (fun v4 h3 H locs hR hLo heq => ?_)
      refine lv_sipush (v := 192) hx hb d_T_letterWidth_35 (by decide) ?_
      refine lv_iand hx hb d_T_letterWidth_38 ?_
      refine lv_sipush (v := 128) hx hb d_T_letterWidth_39 (by decide) ?_
      refine lv_icmp_eq (tgt := 47) hx hb d_T_letterWidth_42 rfl (fun hq => ?_) (fun hq => ?_)
      · rw [if_pos hq] at heq
        refine lv_iinc (k := 3) (v := (x3 + 1)) (lv' := [(3, .int (x3 + 1)), (0, .ref x0), (1, .int x1), (2, .int x2)]) hx hb d_T_letterWidth_47 hl rfl rfl (by decide) rfl (fun ls hl => ?_)
        refine lv_goto (tgt := 23) hx hb d_T_letterWidth_50 rfl ?_
        refine W.widen (k := 0) (n := 0) (by omega) (by omega) ?_
        exact hr23 x0 x1 x2 (x3 + 1) h3 H locs ls hR hLo (lv_sub hl [1, 2, 3, 0] rfl) heq
      · rw [if_neg hq] at heq
        refine lv_iconst (v := 0) hx hb d_T_letterWidth_45 (by decide) ?_
        exact x_iret hc hR hLo ⟨by omega, by omega⟩ heq d_T_letterWidth_46
set_option maxRecDepth 100000 in
set_option maxHeartbeats 4000000 in
theorem c_T_letterWidth {l : Launch} {s0 : State} {A0 : Array Value} {G : Gx_t} (hG : G_0 l s0 A0 G) (rm : Room) (hrm : rm_Ok 0 0 1 21 rm) (x0 : Nat) (x1 : Int32) (h0 : Hs_t) (r : Outcome × Hs_t) (heq : f_T_letterWidth x0 x1 h0 = some r) : M_X G s0 l y_T_letterWidth (.code y_T_letterWidth b_T_letterWidth 4 (some .int)) rm [.ref x0, .int x1] h0 r := by
  refine M_X.of (by decide) hG (fun p e s m below meth c H hc hR => ?_)
  have hx := hc.x
  have hb := hc.b
  obtain ⟨hm1, hm2, hm3, hm4⟩ := id hrm
  have hLo : Lo_k s0 [] := fun _ hq => absurd hq List.not_mem_nil
  have hl := lv_entry ([.ref x0, .int x1]) (n := 4) (Nat.le_of_ble_eq_true rfl)
  rw [lg_entry_eq]
  generalize (lg_sl ([.ref x0, .int x1]) ++ List.replicate (4 - (lg_sl ([.ref x0, .int x1])).length) Slot.unset).toArray = ls at hl ⊢
  have hl : lv_has ls 4 [(0, .ref x0), (1, .int x1)] := hl
  generalize hle : ([] : List Loc) = locs at hLo ⊢
  unfold f_T_letterWidth at heq
  refine lv_aload_n hx hb d_T_letterWidth_0 rfl (lv_at hl 0 rfl) ?_
  refine lv_iload_n hx hb d_T_letterWidth_1 rfl (lv_at hl 1 rfl) ?_
  refine x_ck heq (fun tt fs ha ht heq => ?_)
  obtain rfl : tt = 1 := by simpa using ht
  refine x_bI (mc := 0) (ms := 0) (st := []) hc hLo heq ⟨by omega, by omega⟩ (fun r9 h9 => x_runV hc (c_Row_get hc.g rm_Row_get rk_Row_get _ _ _ _ h9) md_Row_get hR ha rfl wd_197 wd_198 wd_199 hl.1 ml_Row_get rfl (Nat.le_of_ble_eq_true rfl) d_T_letterWidth_2 ⟨by show 0 + 1 ≤ _; omega, by show 8 + (2 + 11) + (0) ≤ _; omega⟩ ⟨by show 0 + 0 ≤ _; omega, by show 0 + 0 ≤ _; omega⟩) (fun v1 h1 H locs hR hLo heq => ?_)
  refine x_bI (mc := 0) (ms := 0) (st := []) hc hLo heq ⟨by omega, by omega⟩ (fun r9 h9 => x_runS hc (c_T_widthByFirstByte hc.g rm_T_widthByFirstByte rk_T_widthByFirstByte _ _ _ h9) md_T_widthByFirstByte hR wd_563 wd_564 hl.1 ml_T_widthByFirstByte rfl (Nat.le_of_ble_eq_true rfl) d_T_letterWidth_5 ⟨by show 0 + 1 ≤ _; omega, by show 8 + (1 + 11) + (0) ≤ _; omega⟩ ⟨by show 0 + 0 ≤ _; omega, by show 0 + 0 ≤ _; omega⟩) (fun v2 h2 H locs hR hLo heq => ?_)
  refine lv_istore_n (lv' := [(2, .int v2), (0, .ref x0), (1, .int x1)]) hx hb d_T_letterWidth_8 rfl hl (by decide) rfl (fun ls hl => ?_)
  refine lv_iload_n hx hb d_T_letterWidth_9 rfl (lv_at hl 2 rfl) ?_
  refine lv_iload_n hx hb d_T_letterWidth_10 rfl (lv_at hl 0 rfl) ?_
  refine lv_iadd hx hb d_T_letterWidth_11 ?_
  refine lv_aload_n hx hb d_T_letterWidth_12 rfl (lv_at hl 1 rfl) ?_
  refine x_gI hc hR fl_T_111 heq d_T_letterWidth_13 (fun v3 heq => ?_)
  refine lv_icmp_le (tgt := 21) hx hb d_T_letterWidth_16 rfl (fun hq => ?_) (fun hq => ?_)
  · rw [if_pos hq] at heq
    refine lv_iconst (v := 1) hx hb d_T_letterWidth_21 (by decide) ?_
    refine lv_istore_n (lv' := [(3, .int 1), (2, .int v2), (0, .ref x0), (1, .int x1)]) hx hb d_T_letterWidth_22 rfl hl (by decide) rfl (fun ls hl => ?_)
    refine W.widen (k := 0) (n := 0) (by omega) (by omega) ?_
    exact k_T_letterWidth_b23 hc hrm fu_N x0 x1 v2 1 h2 H locs ls hR hLo (lv_sub hl [2, 3, 1, 0] rfl) heq
  · rw [if_neg hq] at heq
    refine lv_iconst (v := 0) hx hb d_T_letterWidth_19 (by decide) ?_
    exact x_iret hc hR hLo ⟨by omega, by omega⟩ heq d_T_letterWidth_20
def rm_T_letterWidth : Room := { frames := 1, cells := 0, slots := 0, locals := 21 }
theorem rk_T_letterWidth : rm_Ok 0 0 1 21 rm_T_letterWidth := ⟨Nat.le_refl _, Nat.le_refl _, Nat.le_refl _, Nat.le_refl _⟩
def f_T_holdsJustLetters_b4 : Nat → Nat → Int32 → Hs_t → Rs_t
  | 0, _, _, _ => none
  | n + 1, x0, x3, h0 => (fd_I [1] 1 h0 x0).bind fun v1 => if v1 ≤ x3 then (re_Z 1 h0) else (bd_I (f_T_letterWidth x0 x3 h0) (fun v2 h1 => if v2 = 0 then (re_Z 0 h1) else ((f_T_holdsJustLetters_b4 n) x0 (x3 + v2) h1)))
def f_T_holdsJustLetters (x0 : Nat) (x1 : Int32) (h0 : Hs_t) : Rs_t := f_T_holdsJustLetters_b4 fu_N x0 x1 h0
set_option maxRecDepth 100000 in
set_option maxHeartbeats 4000000 in
theorem k_T_holdsJustLetters_b4 {p : Program} {l : Launch} {e : Env} {s : State} {m : MethodId} {args : Array Value} {below : List Frame} {meth : Method} {c : Code} {s0 : State} {A0 : Array Value} {G : Gx_t} {r : Outcome × Hs_t} {rm : Room} (hc : Cx_t p s m meth c s0 A0 l G y_T_holdsJustLetters b_T_holdsJustLetters 4 (some .boolean) []) (hrm : rm_Ok 0 0 2 44 rm) : ∀ (n : Nat) (x0 : Nat) (x3 : Int32) (h0 : Hs_t) (H : Heap) (locs : List Loc) (ls : Array Slot), Rp_h G s0.heap h0 H → Lo_k s0 locs → lv_has ls 4 [(0, .ref x0), (3, .int x3)] → f_T_holdsJustLetters_b4 n x0 x3 h0 = some r → W p l e rm s m args below meth c H locs 0 0 (xq_MQ G s0 below r s rm.cells rm.slots) (F0 m 4 ls []) := by
  have hx := hc.x
  have hb := hc.b
  obtain ⟨hm1, hm2, hm3, hm4⟩ := id hrm
  intro n
  induction n with
  | zero =>
    intro x0 x3 h0 H locs ls hR hLo hl heq
    unfold f_T_holdsJustLetters_b4 at heq
    cases heq
  | succ n hr4 =>
    intro x0 x3 h0 H locs ls hR hLo hl heq
    unfold f_T_holdsJustLetters_b4 at heq
    refine lv_iload_n hx hb d_T_holdsJustLetters_4 rfl (lv_at hl 1 rfl) ?_
    refine lv_aload_n hx hb d_T_holdsJustLetters_5 rfl (lv_at hl 0 rfl) ?_
    refine x_gI hc hR fl_T_111 heq d_T_holdsJustLetters_6 (fun v1 heq => ?_)
    refine lv_icmp_ge (tgt := 31) hx hb d_T_holdsJustLetters_9 rfl (fun hq => ?_) (fun hq => ?_)
    · rw [if_pos hq] at heq
      refine lv_iconst (v := 1) hx hb d_T_holdsJustLetters_31 (by decide) ?_
      exact x_zret hc hR hLo ⟨by omega, by omega⟩ heq d_T_holdsJustLetters_32
    · rw [if_neg hq] at heq
      refine lv_aload_n hx hb d_T_holdsJustLetters_12 rfl (lv_at hl 0 rfl) ?_
      refine lv_iload_n hx hb d_T_holdsJustLetters_13 rfl (lv_at hl 1 rfl) ?_
      refine x_bI (mc := 0) (ms := 0) (st := []) hc hLo heq ⟨by omega, by omega⟩ (fun r9 h9 => x_runS hc (c_T_letterWidth hc.g rm_T_letterWidth rk_T_letterWidth _ _ _ _ h9) md_T_letterWidth hR wd_560 wd_561 hl.1 ml_T_letterWidth rfl (Nat.le_of_ble_eq_true rfl) d_T_holdsJustLetters_14 ⟨by show 1 + 1 ≤ _; omega, by show 8 + (4 + 11) + (21) ≤ _; omega⟩ ⟨by show 0 + 0 ≤ _; omega, by show 0 + 0 ≤ _; omega⟩) (fun v2 h1 H locs hR hLo heq => ?_)
      refine lv_istore_n (lv' := [(2, .int v2), (0, .ref x0), (3, .int x3)]) hx hb d_T_holdsJustLetters_17 rfl hl (by decide) rfl (fun ls hl => ?_)
      refine lv_iload_n hx hb d_T_holdsJustLetters_18 rfl (lv_at hl 0 rfl) ?_
      refine lv_if_ne (tgt := 24) hx hb d_T_holdsJustLetters_19 rfl (fun hq => ?_) (fun hq => ?_)
      · rw [if_neg hq] at heq
        refine lv_iload_n hx hb d_T_holdsJustLetters_24 rfl (lv_at hl 2 rfl) ?_
        refine lv_iload_n hx hb d_T_holdsJustLetters_25 rfl (lv_at hl 0 rfl) ?_
        refine lv_iadd hx hb d_T_holdsJustLetters_26 ?_
        refine lv_istore_n (lv' := [(3, .int (x3 + v2)), (2, .int v2), (0, .ref x0)]) hx hb d_T_holdsJustLetters_27 rfl hl (by decide) rfl (fun ls hl => ?_)
        refine lv_goto (tgt := 4) hx hb d_T_holdsJustLetters_28 rfl ?_
        refine W.widen (k := 0) (n := 0) (by omega) (by omega) ?_
        exact hr4 x0 (x3 + v2) h1 H locs ls hR hLo (lv_sub hl [2, 0] rfl) heq
      · rw [if_pos hq] at heq
        refine lv_iconst (v := 0) hx hb d_T_holdsJustLetters_22 (by decide) ?_
        exact x_zret hc hR hLo ⟨by omega, by omega⟩ heq d_T_holdsJustLetters_23
set_option maxRecDepth 100000 in
set_option maxHeartbeats 4000000 in
theorem c_T_holdsJustLetters {l : Launch} {s0 : State} {A0 : Array Value} {G : Gx_t} (hG : G_0 l s0 A0 G) (rm : Room) (hrm : rm_Ok 0 0 2 44 rm) (x0 : Nat) (x1 : Int32) (h0 : Hs_t) (r : Outcome × Hs_t) (heq : f_T_holdsJustLetters x0 x1 h0 = some r) : M_X G s0 l y_T_holdsJustLetters (.code y_T_holdsJustLetters b_T_holdsJustLetters 4 (some .boolean)) rm [.ref x0, .int x1] h0 r := by
  refine M_X.of (by decide) hG (fun p e s m below meth c H hc hR => ?_)
  have hx := hc.x
  have hb := hc.b
  obtain ⟨hm1, hm2, hm3, hm4⟩ := id hrm
  have hLo : Lo_k s0 [] := fun _ hq => absurd hq List.not_mem_nil
  have hl := lv_entry ([.ref x0, .int x1]) (n := 4) (Nat.le_of_ble_eq_true rfl)
  rw [lg_entry_eq]
  generalize (lg_sl ([.ref x0, .int x1]) ++ List.replicate (4 - (lg_sl ([.ref x0, .int x1])).length) Slot.unset).toArray = ls at hl ⊢
  have hl : lv_has ls 4 [(0, .ref x0), (1, .int x1)] := hl
  generalize hle : ([] : List Loc) = locs at hLo ⊢
  unfold f_T_holdsJustLetters at heq
  refine lv_iconst (v := 0) hx hb d_T_holdsJustLetters_0 (by decide) ?_
  refine lv_istore_n (lv' := [(2, .int 0), (0, .ref x0), (1, .int x1)]) hx hb d_T_holdsJustLetters_1 rfl hl (by decide) rfl (fun ls hl => ?_)
  refine lv_iload_n hx hb d_T_holdsJustLetters_2 rfl (lv_at hl 2 rfl) ?_
  refine lv_istore_n (lv' := [(3, .int x1), (2, .int 0), (0, .ref x0), (1, .int x1)]) hx hb d_T_holdsJustLetters_3 rfl hl (by decide) rfl (fun ls hl => ?_)
  refine W.widen (k := 0) (n := 0) (by omega) (by omega) ?_
  exact k_T_holdsJustLetters_b4 hc hrm fu_N x0 x1 h0 H locs ls hR hLo (lv_sub hl [2, 0] rfl) heq
def rm_T_holdsJustLetters : Room := { frames := 2, cells := 0, slots := 0, locals := 44 }
theorem rk_T_holdsJustLetters : rm_Ok 0 0 2 44 rm_T_holdsJustLetters := ⟨Nat.le_refl _, Nat.le_refl _, Nat.le_refl _, Nat.le_refl _⟩
def f_T_letterOf_b36 : Nat → Nat → Int32 → Int32 → Int32 → Int32 → Hs_t → Rs_t
  | 0, _, _, _, _, _, _ => none
  | n + 1, x0, x1, x2, x4, x5, h0 => if x2 ≤ x5 then (re_I x4 h0) else ((ck_T [1] h0 x0).bind fun _ => bd_I (f_Row_get x0 (x1 + x5) h0) (fun v2 h2 => (f_T_letterOf_b36 n) x0 x1 x2 ((x4 <<< (6 &&& 31)) ||| (v2 &&& 63)) (x5 + 1) h2))
def f_T_letterOf_b31 (x0 : Nat) (x1 : Int32) (x2 : Int32) (sv0 : Int32) (h0 : Hs_t) : Rs_t := f_T_letterOf_b36 fu_N x0 x1 x2 sv0 1 h0
def f_T_letterOf (x0 : Nat) (x1 : Int32) (x2 : Int32) (h0 : Hs_t) : Rs_t := (ck_T [1] h0 x0).bind fun _ => bd_I (f_Row_get x0 x1 h0) (fun v1 h1 => if x2 = 1 then (f_T_letterOf_b31 x0 x1 x2 v1 h1) else (if x2 = 2 then (f_T_letterOf_b31 x0 x1 x2 (v1 &&& 31) h1) else (f_T_letterOf_b31 x0 x1 x2 (v1 &&& 15) h1)))
set_option maxRecDepth 100000 in
set_option maxHeartbeats 4000000 in
theorem k_T_letterOf_b36 {p : Program} {l : Launch} {e : Env} {s : State} {m : MethodId} {args : Array Value} {below : List Frame} {meth : Method} {c : Code} {s0 : State} {A0 : Array Value} {G : Gx_t} {r : Outcome × Hs_t} {rm : Room} (hc : Cx_t p s m meth c s0 A0 l G y_T_letterOf b_T_letterOf 6 (some .int) []) (hrm : rm_Ok 0 0 1 21 rm) : ∀ (n : Nat) (x0 : Nat) (x1 : Int32) (x2 : Int32) (x4 : Int32) (x5 : Int32) (h0 : Hs_t) (H : Heap) (locs : List Loc) (ls : Array Slot), Rp_h G s0.heap h0 H → Lo_k s0 locs → lv_has ls 6 [(0, .ref x0), (1, .int x1), (2, .int x2), (4, .int x4), (5, .int x5)] → f_T_letterOf_b36 n x0 x1 x2 x4 x5 h0 = some r → W p l e rm s m args below meth c H locs 0 0 (xq_MQ G s0 below r s rm.cells rm.slots) (F0 m 36 ls []) := by
  have hx := hc.x
  have hb := hc.b
  obtain ⟨hm1, hm2, hm3, hm4⟩ := id hrm
  intro n
  induction n with
  | zero =>
    intro x0 x1 x2 x4 x5 h0 H locs ls hR hLo hl heq
    unfold f_T_letterOf_b36 at heq
    cases heq
  | succ n hr36 =>
    intro x0 x1 x2 x4 x5 h0 H locs ls hR hLo hl heq
    unfold f_T_letterOf_b36 at heq
    refine lv_iload hx hb d_T_letterOf_36 (lv_at hl 4 rfl) ?_
    refine lv_iload_n hx hb d_T_letterOf_38 rfl (lv_at hl 2 rfl) ?_
    refine lv_icmp_ge (tgt := 67) hx hb d_T_letterOf_39 rfl (fun hq => ?_) (fun hq => ?_)
    · rw [if_pos hq] at heq
      refine lv_iload hx hb d_T_letterOf_67 (lv_at hl 3 rfl) ?_
      exact x_iret hc hR hLo ⟨by omega, by omega⟩ heq d_T_letterOf_69
    · rw [if_neg hq] at heq
      refine lv_iload hx hb d_T_letterOf_42 (lv_at hl 3 rfl) ?_
      refine lv_bipush (v := 6) hx hb d_T_letterOf_44 (by decide) ?_
      refine lv_ishl hx hb d_T_letterOf_46 ?_
      refine lv_aload_n hx hb d_T_letterOf_47 rfl (lv_at hl 0 rfl) ?_
      refine lv_iload_n hx hb d_T_letterOf_48 rfl (lv_at hl 1 rfl) ?_
      refine lv_iload hx hb d_T_letterOf_49 (lv_at hl 4 rfl) ?_
      refine lv_iadd hx hb d_T_letterOf_51 ?_
      refine x_ck heq (fun tt fs ha ht heq => ?_)
      obtain rfl : tt = 1 := by simpa using ht
      refine x_bI (mc := 0) (ms := 0) (st := [.int (x4 <<< (6 &&& 31))]) hc hLo heq ⟨by omega, by omega⟩ (fun r9 h9 => x_runV hc (c_Row_get hc.g rm_Row_get rk_Row_get _ _ _ _ h9) md_Row_get hR ha rfl wd_197 wd_198 wd_199 hl.1 ml_Row_get rfl (Nat.le_of_ble_eq_true rfl) d_T_letterOf_52 ⟨by show 0 + 1 ≤ _; omega, by show 8 + (2 + 11) + (0) ≤ _; omega⟩ ⟨by show 0 + 0 ≤ _; omega, by show 0 + 0 ≤ _; omega⟩) (fun v2 h2 H locs hR hLo heq => ?_)
      refine lv_bipush (v := 63) hx hb d_T_letterOf_55 (by decide) ?_
      refine lv_iand hx hb d_T_letterOf_57 ?_
      refine lv_ior hx hb d_T_letterOf_58 ?_
      refine lv_istore (lv' := [(4, .int ((x4 <<< (6 &&& 31)) ||| (v2 &&& 63))), (0, .ref x0), (1, .int x1), (2, .int x2), (5, .int x5)]) hx hb d_T_letterOf_59 hl (by decide) rfl (fun ls hl => ?_)
      refine lv_iinc (k := 4) (v := (x5 + 1)) (lv' := [(5, .int (x5 + 1)), (4, .int ((x4 <<< (6 &&& 31)) ||| (v2 &&& 63))), (0, .ref x0), (1, .int x1), (2, .int x2)]) hx hb d_T_letterOf_61 hl rfl rfl (by decide) rfl (fun ls hl => ?_)
      refine lv_goto (tgt := 36) hx hb d_T_letterOf_64 rfl ?_
      refine W.widen (k := 0) (n := 0) (by omega) (by omega) ?_
      exact hr36 x0 x1 x2 ((x4 <<< (6 &&& 31)) ||| (v2 &&& 63)) (x5 + 1) h2 H locs ls hR hLo (lv_sub hl [2, 3, 4, 1, 0] rfl) heq
set_option maxRecDepth 100000 in
set_option maxHeartbeats 4000000 in
theorem k_T_letterOf_b31 {p : Program} {l : Launch} {e : Env} {s : State} {m : MethodId} {args : Array Value} {below : List Frame} {meth : Method} {c : Code} {s0 : State} {A0 : Array Value} {G : Gx_t} {r : Outcome × Hs_t} {rm : Room} (hc : Cx_t p s m meth c s0 A0 l G y_T_letterOf b_T_letterOf 6 (some .int) []) (hrm : rm_Ok 0 0 1 21 rm) : ∀ (x0 : Nat) (x1 : Int32) (x2 : Int32) (sv0 : Int32) (h0 : Hs_t) (H : Heap) (locs : List Loc) (ls : Array Slot), Rp_h G s0.heap h0 H → Lo_k s0 locs → lv_has ls 6 [(0, .ref x0), (1, .int x1), (2, .int x2)] → f_T_letterOf_b31 x0 x1 x2 sv0 h0 = some r → W p l e rm s m args below meth c H locs 0 0 (xq_MQ G s0 below r s rm.cells rm.slots) (F0 m 31 ls [.int sv0]) := by
  have hx := hc.x
  have hb := hc.b
  obtain ⟨hm1, hm2, hm3, hm4⟩ := id hrm
  intro x0 x1 x2 sv0 h0 H locs ls hR hLo hl heq
  unfold f_T_letterOf_b31 at heq
  refine lv_istore (lv' := [(4, .int sv0), (0, .ref x0), (1, .int x1), (2, .int x2)]) hx hb d_T_letterOf_31 hl (by decide) rfl (fun ls hl => ?_)
  refine lv_iconst (v := 1) hx hb d_T_letterOf_33 (by decide) ?_
  refine lv_istore (lv' := [(5, .int 1), (4, .int sv0), (0, .ref x0), (1, .int x1), (2, .int x2)]) hx hb d_T_letterOf_34 hl (by decide) rfl (fun ls hl => ?_)
  refine W.widen (k := 0) (n := 0) (by omega) (by omega) ?_
  exact k_T_letterOf_b36 hc hrm fu_N x0 x1 x2 sv0 1 h0 H locs ls hR hLo (lv_sub hl [2, 3, 4, 1, 0] rfl) heq
set_option maxRecDepth 100000 in
set_option maxHeartbeats 4000000 in
theorem c_T_letterOf {l : Launch} {s0 : State} {A0 : Array Value} {G : Gx_t} (hG : G_0 l s0 A0 G) (rm : Room) (hrm : rm_Ok 0 0 1 21 rm) (x0 : Nat) (x1 : Int32) (x2 : Int32) (h0 : Hs_t) (r : Outcome × Hs_t) (heq : f_T_letterOf x0 x1 x2 h0 = some r) : M_X G s0 l y_T_letterOf (.code y_T_letterOf b_T_letterOf 6 (some .int)) rm [.ref x0, .int x1, .int x2] h0 r := by
  refine M_X.of (by decide) hG (fun p e s m below meth c H hc hR => ?_)
  have hx := hc.x
  have hb := hc.b
  obtain ⟨hm1, hm2, hm3, hm4⟩ := id hrm
  have hLo : Lo_k s0 [] := fun _ hq => absurd hq List.not_mem_nil
  have hl := lv_entry ([.ref x0, .int x1, .int x2]) (n := 6) (Nat.le_of_ble_eq_true rfl)
  rw [lg_entry_eq]
  generalize (lg_sl ([.ref x0, .int x1, .int x2]) ++ List.replicate (6 - (lg_sl ([.ref x0, .int x1, .int x2])).length) Slot.unset).toArray = ls at hl ⊢
  have hl : lv_has ls 6 [(0, .ref x0), (1, .int x1), (2, .int x2)] := hl
  generalize hle : ([] : List Loc) = locs at hLo ⊢
  unfold f_T_letterOf at heq
  refine lv_aload_n hx hb d_T_letterOf_0 rfl (lv_at hl 0 rfl) ?_
  refine lv_iload_n hx hb d_T_letterOf_1 rfl (lv_at hl 1 rfl) ?_
  refine x_ck heq (fun tt fs ha ht heq => ?_)
  obtain rfl : tt = 1 := by simpa using ht
  refine x_bI (mc := 0) (ms := 0) (st := []) hc hLo heq ⟨by omega, by omega⟩ (fun r9 h9 => x_runV hc (c_Row_get hc.g rm_Row_get rk_Row_get _ _ _ _ h9) md_Row_get hR ha rfl wd_197 wd_198 wd_199 hl.1 ml_Row_get rfl (Nat.le_of_ble_eq_true rfl) d_T_letterOf_2 ⟨by show 0 + 1 ≤ _; omega, by show 8 + (2 + 11) + (0) ≤ _; omega⟩ ⟨by show 0 + 0 ≤ _; omega, by show 0 + 0 ≤ _; omega⟩) (fun v1 h1 H locs hR hLo heq => ?_)
  refine lv_istore_n (lv' := [(3, .int v1), (0, .ref x0), (1, .int x1), (2, .int x2)]) hx hb d_T_letterOf_5 rfl hl (by decide) rfl (fun ls hl => ?_)
  refine lv_iload_n hx hb d_T_letterOf_6 rfl (lv_at hl 3 rfl) ?_
  refine lv_iconst (v := 1) hx hb d_T_letterOf_7 (by decide) ?_
  refine lv_icmp_ne (tgt := 15) hx hb d_T_letterOf_8 rfl (fun hq => ?_) (fun hq => ?_)
  · rw [if_neg hq] at heq
    refine lv_iload_n hx hb d_T_letterOf_15 rfl (lv_at hl 3 rfl) ?_
    refine lv_iconst (v := 2) hx hb d_T_letterOf_16 (by decide) ?_
    refine lv_icmp_ne (tgt := 27) hx hb d_T_letterOf_17 rfl (fun hq => ?_) (fun hq => ?_)
    · rw [if_neg hq] at heq
      refine lv_iload_n hx hb d_T_letterOf_27 rfl (lv_at hl 0 rfl) ?_
      refine lv_bipush (v := 15) hx hb d_T_letterOf_28 (by decide) ?_
      refine lv_iand hx hb d_T_letterOf_30 ?_
      refine W.widen (k := 0) (n := 0) (by omega) (by omega) ?_
      exact k_T_letterOf_b31 hc hrm x0 x1 x2 (v1 &&& 15) h1 H locs ls hR hLo (lv_sub hl [1, 2, 3] rfl) heq
    · rw [if_pos hq] at heq
      refine lv_iload_n hx hb d_T_letterOf_20 rfl (lv_at hl 0 rfl) ?_
      refine lv_bipush (v := 31) hx hb d_T_letterOf_21 (by decide) ?_
      refine lv_iand hx hb d_T_letterOf_23 ?_
      refine lv_goto (tgt := 31) hx hb d_T_letterOf_24 rfl ?_
      refine W.widen (k := 0) (n := 0) (by omega) (by omega) ?_
      exact k_T_letterOf_b31 hc hrm x0 x1 x2 (v1 &&& 31) h1 H locs ls hR hLo (lv_sub hl [1, 2, 3] rfl) heq
  · rw [if_pos hq] at heq
    refine lv_iload_n hx hb d_T_letterOf_11 rfl (lv_at hl 0 rfl) ?_
    refine lv_goto (tgt := 31) hx hb d_T_letterOf_12 rfl ?_
    refine W.widen (k := 0) (n := 0) (by omega) (by omega) ?_
    exact k_T_letterOf_b31 hc hrm x0 x1 x2 v1 h1 H locs ls hR hLo (lv_sub hl [1, 2, 3] rfl) heq
def rm_T_letterOf : Room := { frames := 1, cells := 0, slots := 0, locals := 21 }
theorem rk_T_letterOf : rm_Ok 0 0 1 21 rm_T_letterOf := ⟨Nat.le_refl _, Nat.le_refl _, Nat.le_refl _, Nat.le_refl _⟩
def f_T_takeLetters_b58 (h0 : Hs_t) : Rs_t := re_V h0
def f_T_takeLetters_b11 : Nat → Nat → Int32 → Int32 → Hs_t → Rs_t
  | 0, _, _, _, _ => none
  | n + 1, t0, x1, x2, h0 => (fd_A [0] 3 h0 t0).bind fun v2 => (fd_I [1] 1 h0 v2).bind fun v3 => if v3 ≤ x2 then (f_T_takeLetters_b58 h0) else (if x1 ≤ 0 then (f_T_takeLetters_b58 h0) else ((fd_A [0] 3 h0 t0).bind fun v4 => bd_I (f_T_letterWidth v4 x2 h0) (fun v5 h2 => (fd_A [0] 4 h2 t0).bind fun v6 => (fd_A [0] 3 h2 t0).bind fun v7 => bd_I (f_T_letterOf v7 x2 v5 h2) (fun v8 h3 => (ck_T [1] h3 v6).bind fun _ => bd_V (f_Row_add v6 v8 h3) (fun h4 => (f_T_takeLetters_b11 n) t0 v5 (x2 + v5) h4)))))
def f_T_takeLetters (t0 : Nat) (h0 : Hs_t) : Rs_t := (fd_A [0] 4 h0 t0).bind fun v1 => (ck_T [1] h0 v1).bind fun _ => bd_V (f_Row_clear v1 h0) (fun h1 => f_T_takeLetters_b11 fu_N t0 1 2 h1)
set_option maxRecDepth 100000 in
set_option maxHeartbeats 4000000 in
theorem k_T_takeLetters_b58 {p : Program} {l : Launch} {e : Env} {s : State} {m : MethodId} {args : Array Value} {below : List Frame} {meth : Method} {c : Code} {s0 : State} {A0 : Array Value} {G : Gx_t} {r : Outcome × Hs_t} {rm : Room} (hc : Cx_t p s m meth c s0 A0 l G y_T_takeLetters b_T_takeLetters 3 none []) (hrm : rm_Ok 0 0 2 46 rm) : ∀  (h0 : Hs_t) (H : Heap) (locs : List Loc) (ls : Array Slot), Rp_h G s0.heap h0 H → Lo_k s0 locs → lv_has ls 3 [] → f_T_takeLetters_b58  h0 = some r → W p l e rm s m args below meth c H locs 0 0 (xq_MQ G s0 below r s rm.cells rm.slots) (F0 m 58 ls []) := by
  have hx := hc.x
  have hb := hc.b
  obtain ⟨hm1, hm2, hm3, hm4⟩ := id hrm
  intro  h0 H locs ls hR hLo hl heq
  unfold f_T_takeLetters_b58 at heq
  exact x_vret hc hR hLo ⟨by omega, by omega⟩ heq d_T_takeLetters_58
set_option maxRecDepth 100000 in
set_option maxHeartbeats 4000000 in
theorem k_T_takeLetters_b11 {p : Program} {l : Launch} {e : Env} {s : State} {m : MethodId} {args : Array Value} {below : List Frame} {meth : Method} {c : Code} {s0 : State} {A0 : Array Value} {G : Gx_t} {r : Outcome × Hs_t} {rm : Room} (hc : Cx_t p s m meth c s0 A0 l G y_T_takeLetters b_T_takeLetters 3 none []) (hrm : rm_Ok 0 0 2 46 rm) : ∀ (n : Nat) (t0 : Nat) (x1 : Int32) (x2 : Int32) (h0 : Hs_t) (H : Heap) (locs : List Loc) (ls : Array Slot), Rp_h G s0.heap h0 H → Lo_k s0 locs → lv_has ls 3 [(0, .ref t0), (1, .int x1), (2, .int x2)] → f_T_takeLetters_b11 n t0 x1 x2 h0 = some r → W p l e rm s m args below meth c H locs 0 0 (xq_MQ G s0 below r s rm.cells rm.slots) (F0 m 11 ls []) := by
  have hx := hc.x
  have hb := hc.b
  obtain ⟨hm1, hm2, hm3, hm4⟩ := id hrm
  intro n
  induction n with
  | zero =>
    intro t0 x1 x2 h0 H locs ls hR hLo hl heq
    unfold f_T_takeLetters_b11 at heq
    cases heq
  | succ n hr11 =>
    intro t0 x1 x2 h0 H locs ls hR hLo hl heq
    unfold f_T_takeLetters_b11 at heq
    refine lv_iload_n hx hb d_T_takeLetters_11 rfl (lv_at hl 2 rfl) ?_
    refine lv_aload_n hx hb d_T_takeLetters_12 rfl (lv_at hl 0 rfl) ?_
    refine x_gA hc hR fl_T_31 heq d_T_takeLetters_13 (fun v2 heq => ?_)
    refine x_gI hc hR fl_T_111 heq d_T_takeLetters_16 (fun v3 heq => ?_)
    refine lv_icmp_ge (tgt := 58) hx hb d_T_takeLetters_19 rfl (fun hq => ?_) (fun hq => ?_)
    · rw [if_pos hq] at heq
      refine W.widen (k := 0) (n := 0) (by omega) (by omega) ?_
      exact k_T_takeLetters_b58 hc hrm h0 H locs ls hR hLo (lv_sub hl [] rfl) heq
    · rw [if_neg hq] at heq
      refine lv_iload_n hx hb d_T_takeLetters_22 rfl (lv_at hl 1 rfl) ?_
      refine lv_if_le (tgt := 58) hx hb d_T_takeLetters_23 rfl (fun hq => ?_) (fun hq => ?_)
      · rw [if_pos hq] at heq
        refine W.widen (k := 0) (n := 0) (by omega) (by omega) ?_
        exact k_T_takeLetters_b58 hc hrm h0 H locs ls hR hLo (lv_sub hl [] rfl) heq
      · rw [if_neg hq] at heq
        refine lv_aload_n hx hb d_T_takeLetters_26 rfl (lv_at hl 0 rfl) ?_
        refine x_gA hc hR fl_T_31 heq d_T_takeLetters_27 (fun v4 heq => ?_)
        refine lv_iload_n hx hb d_T_takeLetters_30 rfl (lv_at hl 2 rfl) ?_
        refine x_bI (mc := 0) (ms := 0) (st := []) hc hLo heq ⟨by omega, by omega⟩ (fun r9 h9 => x_runS hc (c_T_letterWidth hc.g rm_T_letterWidth rk_T_letterWidth _ _ _ _ h9) md_T_letterWidth hR wd_560 wd_561 hl.1 ml_T_letterWidth rfl (Nat.le_of_ble_eq_true rfl) d_T_takeLetters_31 ⟨by show 1 + 1 ≤ _; omega, by show 8 + (4 + 11) + (21) ≤ _; omega⟩ ⟨by show 0 + 0 ≤ _; omega, by show 0 + 0 ≤ _; omega⟩) (fun v5 h2 H locs hR hLo heq => ?_)
        refine lv_istore_n (lv' := [(1, .int v5), (0, .ref t0), (2, .int x2)]) hx hb d_T_takeLetters_34 rfl hl (by decide) rfl (fun ls hl => ?_)
        refine lv_aload_n hx hb d_T_takeLetters_35 rfl (lv_at hl 1 rfl) ?_
        refine x_gA hc hR fl_T_35 heq d_T_takeLetters_36 (fun v6 heq => ?_)
        refine lv_aload_n hx hb d_T_takeLetters_39 rfl (lv_at hl 1 rfl) ?_
        refine x_gA hc hR fl_T_31 heq d_T_takeLetters_40 (fun v7 heq => ?_)
        refine lv_iload_n hx hb d_T_takeLetters_43 rfl (lv_at hl 2 rfl) ?_
        refine lv_iload_n hx hb d_T_takeLetters_44 rfl (lv_at hl 0 rfl) ?_
        refine x_bI (mc := 0) (ms := 0) (st := [.ref v6]) hc hLo heq ⟨by omega, by omega⟩ (fun r9 h9 => x_runS hc (c_T_letterOf hc.g rm_T_letterOf rk_T_letterOf _ _ _ _ _ h9) md_T_letterOf hR wd_570 wd_571 hl.1 ml_T_letterOf rfl (Nat.le_of_ble_eq_true rfl) d_T_takeLetters_45 ⟨by show 1 + 1 ≤ _; omega, by show 8 + (6 + 11) + (21) ≤ _; omega⟩ ⟨by show 0 + 0 ≤ _; omega, by show 0 + 0 ≤ _; omega⟩) (fun v8 h3 H locs hR hLo heq => ?_)
        refine x_ck heq (fun tt fs ha ht heq => ?_)
        obtain rfl : tt = 1 := by simpa using ht
        refine x_bV (mc := 0) (ms := 0) (st := []) hc hLo heq ⟨by omega, by omega⟩ (fun r9 h9 => x_runV hc (c_Row_add hc.g rm_Row_add rk_Row_add _ _ _ _ h9) md_Row_add hR ha rfl wd_573 wd_495 wd_496 hl.1 ml_Row_add rfl (Nat.le_of_ble_eq_true rfl) d_T_takeLetters_48 ⟨by show 0 + 1 ≤ _; omega, by show 8 + (2 + 11) + (0) ≤ _; omega⟩ ⟨by show 0 + 0 ≤ _; omega, by show 0 + 0 ≤ _; omega⟩) (fun h4 H locs hR hLo heq => ?_)
        refine lv_iload_n hx hb d_T_takeLetters_51 rfl (lv_at hl 2 rfl) ?_
        refine lv_iload_n hx hb d_T_takeLetters_52 rfl (lv_at hl 0 rfl) ?_
        refine lv_iadd hx hb d_T_takeLetters_53 ?_
        refine lv_istore_n (lv' := [(2, .int (x2 + v5)), (1, .int v5), (0, .ref t0)]) hx hb d_T_takeLetters_54 rfl hl (by decide) rfl (fun ls hl => ?_)
        refine lv_goto (tgt := 11) hx hb d_T_takeLetters_55 rfl ?_
        refine W.widen (k := 0) (n := 0) (by omega) (by omega) ?_
        exact hr11 t0 v5 (x2 + v5) h4 H locs ls hR hLo (lv_sub hl [2, 1, 0] rfl) heq
set_option maxRecDepth 100000 in
set_option maxHeartbeats 4000000 in
theorem c_T_takeLetters {l : Launch} {s0 : State} {A0 : Array Value} {G : Gx_t} (hG : G_0 l s0 A0 G) (rm : Room) (hrm : rm_Ok 0 0 2 46 rm) (t0 : Nat) (h0 : Hs_t) (r : Outcome × Hs_t) (heq : f_T_takeLetters t0 h0 = some r) : M_X G s0 l y_T_takeLetters (.code y_T_takeLetters b_T_takeLetters 3 none) rm [.ref t0] h0 r := by
  refine M_X.of (by decide) hG (fun p e s m below meth c H hc hR => ?_)
  have hx := hc.x
  have hb := hc.b
  obtain ⟨hm1, hm2, hm3, hm4⟩ := id hrm
  have hLo : Lo_k s0 [] := fun _ hq => absurd hq List.not_mem_nil
  have hl := lv_entry ([.ref t0]) (n := 3) (Nat.le_of_ble_eq_true rfl)
  rw [lg_entry_eq]
  generalize (lg_sl ([.ref t0]) ++ List.replicate (3 - (lg_sl ([.ref t0])).length) Slot.unset).toArray = ls at hl ⊢
  have hl : lv_has ls 3 [(0, .ref t0)] := hl
  generalize hle : ([] : List Loc) = locs at hLo ⊢
  unfold f_T_takeLetters at heq
  refine lv_aload_n hx hb d_T_takeLetters_0 rfl (lv_at hl 0 rfl) ?_
  refine x_gA hc hR fl_T_35 heq d_T_takeLetters_1 (fun v1 heq => ?_)
  refine x_ck heq (fun tt fs ha ht heq => ?_)
  obtain rfl : tt = 1 := by simpa using ht
  refine x_bV (mc := 0) (ms := 0) (st := []) hc hLo heq ⟨by omega, by omega⟩ (fun r9 h9 => x_runV hc (c_Row_clear hc.g rm_Row_clear rk_Row_clear _ _ _ h9) md_Row_clear hR ha rfl wd_431 wd_432 wd_433 hl.1 ml_Row_clear rfl (Nat.le_of_ble_eq_true rfl) d_T_takeLetters_4 ⟨by show 0 + 1 ≤ _; omega, by show 8 + (1 + 11) + (0) ≤ _; omega⟩ ⟨by show 0 + 0 ≤ _; omega, by show 0 + 0 ≤ _; omega⟩) (fun h1 H locs hR hLo heq => ?_)
  refine lv_iconst (v := 1) hx hb d_T_takeLetters_7 (by decide) ?_
  refine lv_istore_n (lv' := [(1, .int 1), (0, .ref t0)]) hx hb d_T_takeLetters_8 rfl hl (by decide) rfl (fun ls hl => ?_)
  refine lv_iconst (v := 2) hx hb d_T_takeLetters_9 (by decide) ?_
  refine lv_istore_n (lv' := [(2, .int 2), (1, .int 1), (0, .ref t0)]) hx hb d_T_takeLetters_10 rfl hl (by decide) rfl (fun ls hl => ?_)
  refine W.widen (k := 0) (n := 0) (by omega) (by omega) ?_
  exact k_T_takeLetters_b11 hc hrm fu_N t0 1 2 h1 H locs ls hR hLo (lv_sub hl [2, 1, 0] rfl) heq
def rm_T_takeLetters : Room := { frames := 2, cells := 0, slots := 0, locals := 46 }
theorem rk_T_takeLetters : rm_Ok 0 0 2 46 rm_T_takeLetters := ⟨Nat.le_refl _, Nat.le_refl _, Nat.le_refl _, Nat.le_refl _⟩
def f_T_text (t0 : Nat) (h0 : Hs_t) : Rs_t := (ck_T [0] h0 t0).bind fun _ => bd_V (f_T_startReading t0 h0) (fun h1 => (ck_T [0] h1 t0).bind fun _ => bd_V (f_T_readAll t0 2 h1) (fun h2 => (ck_T [0] h2 t0).bind fun _ => bd_L (f_T_numberInBag t0 2 h2) (fun v1 h3 => if (v1 : Int64).toInt32 ≤ 118 then ((ck_T [0] h3 t0).bind fun _ => bd_V (f_T_readAll t0 ((v1 : Int64).toInt32) h3) (fun h4 => (fd_A [0] 3 h4 t0).bind fun v2 => bd_I (f_T_holdsJustLetters v2 2 h4) (fun v3 h5 => if v3 = 0 then (th_N 9 h5) else ((ck_T [0] h5 t0).bind fun _ => bd_V (f_T_takeLetters t0 h5) (fun h6 => (fd_A [0] 4 h6 t0).bind fun v4 => (fd_I [1] 1 h6 v4).bind fun v5 => re_I v5 h6))))) else (th_N 9 h3))))
set_option maxRecDepth 100000 in
set_option maxHeartbeats 4000000 in
theorem c_T_text {l : Launch} {s0 : State} {A0 : Array Value} {G : Gx_t} (hG : G_0 l s0 A0 G) (rm : Room) (hrm : rm_Ok 4 24 83 1675 rm) (t0 : Nat) (h0 : Hs_t) (r : Outcome × Hs_t) (heq : f_T_text t0 h0 = some r) : M_X G s0 l y_T_text (.code y_T_text b_T_text 2 (some .int)) rm [.ref t0] h0 r := by
  refine M_X.of (by decide) hG (fun p e s m below meth c H hc hR => ?_)
  have hx := hc.x
  have hb := hc.b
  obtain ⟨hm1, hm2, hm3, hm4⟩ := id hrm
  have hLo : Lo_k s0 [] := fun _ hq => absurd hq List.not_mem_nil
  have hl := lv_entry ([.ref t0]) (n := 2) (Nat.le_of_ble_eq_true rfl)
  rw [lg_entry_eq]
  generalize (lg_sl ([.ref t0]) ++ List.replicate (2 - (lg_sl ([.ref t0])).length) Slot.unset).toArray = ls at hl ⊢
  have hl : lv_has ls 2 [(0, .ref t0)] := hl
  generalize hle : ([] : List Loc) = locs at hLo ⊢
  unfold f_T_text at heq
  refine lv_aload_n hx hb d_T_text_0 rfl (lv_at hl 0 rfl) ?_
  refine x_ck heq (fun tt fs ha ht heq => ?_)
  obtain rfl : tt = 0 := by simpa using ht
  refine x_bV (mc := 1) (ms := 6) (st := []) hc hLo heq ⟨by omega, by omega⟩ (fun r9 h9 => x_runV hc (c_T_startReading hc.g rm_T_startReading rk_T_startReading _ _ _ h9) md_T_startReading hR ha rfl wd_427 wd_429 sp_2 hl.1 ml_T_startReading rfl (Nat.le_of_ble_eq_true rfl) d_T_text_1 ⟨by show 7 + 1 ≤ _; omega, by show 8 + (1 + 11) + (101) ≤ _; omega⟩ ⟨by show 0 + 1 ≤ _; omega, by show 0 + 6 ≤ _; omega⟩) (fun h1 H locs hR hLo heq => ?_)
  refine lv_aload_n hx hb d_T_text_4 rfl (lv_at hl 0 rfl) ?_
  refine lv_iconst (v := 2) hx hb d_T_text_5 (by decide) ?_
  refine x_ck heq (fun tt fs ha ht heq => ?_)
  obtain rfl : tt = 0 := by simpa using ht
  refine x_bV (mc := 1) (ms := 6) (st := []) hc hLo heq ⟨by omega, by omega⟩ (fun r9 h9 => x_runV hc (c_T_readAll hc.g rm_T_readAll rk_T_readAll _ _ _ _ h9) md_T_readAll hR ha rfl wd_513 wd_515 sp_8 hl.1 ml_T_readAll rfl (Nat.le_of_ble_eq_true rfl) d_T_text_6 ⟨by show 82 + 1 ≤ _; omega, by show 8 + (5 + 11) + (1651) ≤ _; omega⟩ ⟨by show 1 + 1 ≤ _; omega, by show 6 + 6 ≤ _; omega⟩) (fun h2 H locs hR hLo heq => ?_)
  refine lv_aload_n hx hb d_T_text_9 rfl (lv_at hl 0 rfl) ?_
  refine lv_iconst (v := 2) hx hb d_T_text_10 (by decide) ?_
  refine x_ck heq (fun tt fs ha ht heq => ?_)
  obtain rfl : tt = 0 := by simpa using ht
  refine x_bL (mc := 0) (ms := 0) (st := []) hc hLo heq ⟨by omega, by omega⟩ (fun r9 h9 => x_runV hc (c_T_numberInBag hc.g rm_T_numberInBag rk_T_numberInBag _ _ _ _ h9) md_T_numberInBag hR ha rfl wd_546 wd_548 sp_9 hl.1 ml_T_numberInBag rfl (Nat.le_of_ble_eq_true rfl) d_T_text_11 ⟨by show 1 + 1 ≤ _; omega, by show 8 + (5 + 11) + (21) ≤ _; omega⟩ ⟨by show 2 + 0 ≤ _; omega, by show 12 + 0 ≤ _; omega⟩) (fun v1 h3 H locs hR hLo heq => ?_)
  refine lv_l2i (v := (v1 : Int64).toInt32) hx hb d_T_text_14 rfl ?_
  refine lv_istore_n (lv' := [(1, .int ((v1 : Int64).toInt32)), (0, .ref t0)]) hx hb d_T_text_15 rfl hl (by decide) rfl (fun ls hl => ?_)
  refine lv_iload_n hx hb d_T_text_16 rfl (lv_at hl 0 rfl) ?_
  refine lv_bipush (v := 118) hx hb d_T_text_17 (by decide) ?_
  refine lv_icmp_le (tgt := 30) hx hb d_T_text_19 rfl (fun hq => ?_) (fun hq => ?_)
  · rw [if_pos hq] at heq
    refine lv_aload_n hx hb d_T_text_30 rfl (lv_at hl 1 rfl) ?_
    refine lv_iload_n hx hb d_T_text_31 rfl (lv_at hl 0 rfl) ?_
    refine x_ck heq (fun tt fs ha ht heq => ?_)
    obtain rfl : tt = 0 := by simpa using ht
    refine x_bV (mc := 1) (ms := 6) (st := []) hc hLo heq ⟨by omega, by omega⟩ (fun r9 h9 => x_runV hc (c_T_readAll hc.g rm_T_readAll rk_T_readAll _ _ _ _ h9) md_T_readAll hR ha rfl wd_513 wd_515 sp_8 hl.1 ml_T_readAll rfl (Nat.le_of_ble_eq_true rfl) d_T_text_32 ⟨by show 82 + 1 ≤ _; omega, by show 8 + (5 + 11) + (1651) ≤ _; omega⟩ ⟨by show 2 + 1 ≤ _; omega, by show 12 + 6 ≤ _; omega⟩) (fun h4 H locs hR hLo heq => ?_)
    refine lv_aload_n hx hb d_T_text_35 rfl (lv_at hl 1 rfl) ?_
    refine x_gA hc hR fl_T_31 heq d_T_text_36 (fun v2 heq => ?_)
    refine lv_iconst (v := 2) hx hb d_T_text_39 (by decide) ?_
    refine x_bI (mc := 0) (ms := 0) (st := []) hc hLo heq ⟨by omega, by omega⟩ (fun r9 h9 => x_runS hc (c_T_holdsJustLetters hc.g rm_T_holdsJustLetters rk_T_holdsJustLetters _ _ _ _ h9) md_T_holdsJustLetters hR wd_557 wd_558 hl.1 ml_T_holdsJustLetters rfl (Nat.le_of_ble_eq_true rfl) d_T_text_40 ⟨by show 2 + 1 ≤ _; omega, by show 8 + (4 + 11) + (44) ≤ _; omega⟩ ⟨by show 3 + 0 ≤ _; omega, by show 18 + 0 ≤ _; omega⟩) (fun v3 h5 H locs hR hLo heq => ?_)
    refine lv_if_ne (tgt := 54) hx hb d_T_text_43 rfl (fun hq => ?_) (fun hq => ?_)
    · rw [if_neg hq] at heq
      refine lv_aload_n hx hb d_T_text_54 rfl (lv_at hl 1 rfl) ?_
      refine x_ck heq (fun tt fs ha ht heq => ?_)
      obtain rfl : tt = 0 := by simpa using ht
      refine x_bV (mc := 0) (ms := 0) (st := []) hc hLo heq ⟨by omega, by omega⟩ (fun r9 h9 => x_runV hc (c_T_takeLetters hc.g rm_T_takeLetters rk_T_takeLetters _ _ _ h9) md_T_takeLetters hR ha rfl wd_566 wd_568 sp_10 hl.1 ml_T_takeLetters rfl (Nat.le_of_ble_eq_true rfl) d_T_text_55 ⟨by show 2 + 1 ≤ _; omega, by show 8 + (3 + 11) + (46) ≤ _; omega⟩ ⟨by show 3 + 0 ≤ _; omega, by show 18 + 0 ≤ _; omega⟩) (fun h6 H locs hR hLo heq => ?_)
      refine lv_aload_n hx hb d_T_text_58 rfl (lv_at hl 1 rfl) ?_
      refine x_gA hc hR fl_T_35 heq d_T_text_59 (fun v4 heq => ?_)
      refine x_gI hc hR fl_T_111 heq d_T_text_62 (fun v5 heq => ?_)
      exact x_iret hc hR hLo ⟨by omega, by omega⟩ heq d_T_text_65
    · rw [if_pos hq] at heq
      exact x_thr (names := ["java/lang/RuntimeException", "java/lang/Exception"]) hc hR hLo rfl (by decide +kernel) (by decide +kernel) wd_210 wd_9 tha_T_42 hl.1 d_T_text_46 d_T_text_49 d_T_text_50 d_T_text_53 ⟨by omega, by omega⟩ (by show 2 + 3 < _; omega) (by show 0 + (13 * (2 + 1) + 42) ≤ _; omega) heq
  · rw [if_neg hq] at heq
    exact x_thr (names := ["java/lang/RuntimeException", "java/lang/Exception"]) hc hR hLo rfl (by decide +kernel) (by decide +kernel) wd_210 wd_9 tha_T_42 hl.1 d_T_text_22 d_T_text_25 d_T_text_26 d_T_text_29 ⟨by omega, by omega⟩ (by show 2 + 3 < _; omega) (by show 0 + (13 * (2 + 1) + 42) ≤ _; omega) heq
def rm_T_text : Room := { frames := 83, cells := 4, slots := 24, locals := 1675 }
theorem rk_T_text : rm_Ok 4 24 83 1675 rm_T_text := ⟨Nat.le_refl _, Nat.le_refl _, Nat.le_refl _, Nat.le_refl _⟩
def f_T_line_b89 (t0 : Nat) (sv0 : Int32) (sv1 : Nat) (h0 : Hs_t) : Rs_t := (pt_Z [0] 8 h0 sv1 sv0).bind fun h4 => (fd_A [0] 3 h4 t0).bind fun v11 => (fd_I [1] 1 h4 v11).bind fun v12 => re_I v12 h4
def f_T_line_b77 (t0 : Nat) (x3 : Int32) (h0 : Hs_t) : Rs_t := if x3 = 13 then (f_T_line_b89 t0 1 t0 h0) else (f_T_line_b89 t0 0 t0 h0)
def f_T_line_b57 (sv0 : Int32) (h0 : Hs_t) : Rs_t := re_I sv0 h0
def f_T_line_b6 : Nat → Nat → Int32 → Hs_t → Rs_t
  | 0, _, _, _ => none
  | n + 1, t0, x1, h0 => if 160 < x1 then ((fd_A [0] 3 h0 t0).bind fun v1 => (fd_I [1] 1 h0 v1).bind fun v2 => re_I v2 h0) else ((ck_T [0] h0 t0).bind fun _ => bd_I (f_T_request t0 1 h0) (fun v3 h2 => if v3 = (-1) then (th_N 10 h2) else (if v3 = 0 then ((fd_A [0] 3 h2 t0).bind fun v7 => (fd_I [1] 1 h2 v7).bind fun v8 => if v8 = 0 then (f_T_line_b57 (-1) h2) else ((fd_A [0] 3 h2 t0).bind fun v9 => (fd_I [1] 1 h2 v9).bind fun v10 => f_T_line_b57 v10 h2)) else ((fd_A [0] 2 h2 t0).bind fun v4 => (ar_I h2 v4 0).bind fun v5 => if v5 = 10 then (f_T_line_b77 t0 v5 h2) else (if v5 = 13 then (f_T_line_b77 t0 v5 h2) else ((fd_A [0] 3 h2 t0).bind fun v6 => (ck_T [1] h2 v6).bind fun _ => bd_V (f_Row_add v6 v5 h2) (fun h3 => (f_T_line_b6 n) t0 (x1 + 1) h3)))))))
def f_T_line (t0 : Nat) (h0 : Hs_t) : Rs_t := (ck_T [0] h0 t0).bind fun _ => bd_V (f_T_startReading t0 h0) (fun h1 => f_T_line_b6 fu_N t0 0 h1)
set_option maxRecDepth 100000 in
set_option maxHeartbeats 4000000 in
theorem k_T_line_b89 {p : Program} {l : Launch} {e : Env} {s : State} {m : MethodId} {args : Array Value} {below : List Frame} {meth : Method} {c : Code} {s0 : State} {A0 : Array Value} {G : Gx_t} {r : Outcome × Hs_t} {rm : Room} (hc : Cx_t p s m meth c s0 A0 l G y_T_line b_T_line 4 (some .int) []) (hrm : rm_Ok 2 12 82 1651 rm) : ∀ (t0 : Nat) (sv0 : Int32) (sv1 : Nat) (h0 : Hs_t) (H : Heap) (locs : List Loc) (ls : Array Slot), Rp_h G s0.heap h0 H → Lo_k s0 locs → lv_has ls 4 [(0, .ref t0)] → f_T_line_b89 t0 sv0 sv1 h0 = some r → W p l e rm s m args below meth c H locs 1 6 (xq_MQ G s0 below r s rm.cells rm.slots) (F0 m 89 ls [.int sv0, .ref sv1]) := by
  have hx := hc.x
  have hb := hc.b
  obtain ⟨hm1, hm2, hm3, hm4⟩ := id hrm
  intro t0 sv0 sv1 h0 H locs ls hR hLo hl heq
  unfold f_T_line_b89 at heq
  refine x_pZ hc hR hLo fl_T_112 (Or.inl rfl) heq d_T_line_89 (fun h4 H locs hR hLo heq => ?_)
  refine lv_aload_n hx hb d_T_line_92 rfl (lv_at hl 0 rfl) ?_
  refine x_gA hc hR fl_T_31 heq d_T_line_93 (fun v11 heq => ?_)
  refine x_gI hc hR fl_T_111 heq d_T_line_96 (fun v12 heq => ?_)
  exact x_iret hc hR hLo ⟨by omega, by omega⟩ heq d_T_line_99
set_option maxRecDepth 100000 in
set_option maxHeartbeats 4000000 in
theorem k_T_line_b77 {p : Program} {l : Launch} {e : Env} {s : State} {m : MethodId} {args : Array Value} {below : List Frame} {meth : Method} {c : Code} {s0 : State} {A0 : Array Value} {G : Gx_t} {r : Outcome × Hs_t} {rm : Room} (hc : Cx_t p s m meth c s0 A0 l G y_T_line b_T_line 4 (some .int) []) (hrm : rm_Ok 2 12 82 1651 rm) : ∀ (t0 : Nat) (x3 : Int32) (h0 : Hs_t) (H : Heap) (locs : List Loc) (ls : Array Slot), Rp_h G s0.heap h0 H → Lo_k s0 locs → lv_has ls 4 [(0, .ref t0), (3, .int x3)] → f_T_line_b77 t0 x3 h0 = some r → W p l e rm s m args below meth c H locs 1 6 (xq_MQ G s0 below r s rm.cells rm.slots) (F0 m 77 ls []) := by
  have hx := hc.x
  have hb := hc.b
  obtain ⟨hm1, hm2, hm3, hm4⟩ := id hrm
  intro t0 x3 h0 H locs ls hR hLo hl heq
  unfold f_T_line_b77 at heq
  refine lv_aload_n hx hb d_T_line_77 rfl (lv_at hl 0 rfl) ?_
  refine lv_iload_n hx hb d_T_line_78 rfl (lv_at hl 1 rfl) ?_
  refine lv_bipush (v := 13) hx hb d_T_line_79 (by decide) ?_
  refine lv_icmp_ne (tgt := 88) hx hb d_T_line_81 rfl (fun hq => ?_) (fun hq => ?_)
  · rw [if_neg hq] at heq
    refine lv_iconst (v := 0) hx hb d_T_line_88 (by decide) ?_
    refine W.widen (k := 1) (n := 6) (by omega) (by omega) ?_
    exact k_T_line_b89 hc hrm t0 0 t0 h0 H locs ls hR hLo (lv_sub hl [0] rfl) heq
  · rw [if_pos hq] at heq
    refine lv_iconst (v := 1) hx hb d_T_line_84 (by decide) ?_
    refine lv_goto (tgt := 89) hx hb d_T_line_85 rfl ?_
    refine W.widen (k := 1) (n := 6) (by omega) (by omega) ?_
    exact k_T_line_b89 hc hrm t0 1 t0 h0 H locs ls hR hLo (lv_sub hl [0] rfl) heq
set_option maxRecDepth 100000 in
set_option maxHeartbeats 4000000 in
theorem k_T_line_b57 {p : Program} {l : Launch} {e : Env} {s : State} {m : MethodId} {args : Array Value} {below : List Frame} {meth : Method} {c : Code} {s0 : State} {A0 : Array Value} {G : Gx_t} {r : Outcome × Hs_t} {rm : Room} (hc : Cx_t p s m meth c s0 A0 l G y_T_line b_T_line 4 (some .int) []) (hrm : rm_Ok 2 12 82 1651 rm) : ∀ (sv0 : Int32) (h0 : Hs_t) (H : Heap) (locs : List Loc) (ls : Array Slot), Rp_h G s0.heap h0 H → Lo_k s0 locs → lv_has ls 4 [] → f_T_line_b57 sv0 h0 = some r → W p l e rm s m args below meth c H locs 1 6 (xq_MQ G s0 below r s rm.cells rm.slots) (F0 m 57 ls [.int sv0]) := by
  have hx := hc.x
  have hb := hc.b
  obtain ⟨hm1, hm2, hm3, hm4⟩ := id hrm
  intro sv0 h0 H locs ls hR hLo hl heq
  unfold f_T_line_b57 at heq
  exact x_iret hc hR hLo ⟨by omega, by omega⟩ heq d_T_line_57
set_option maxRecDepth 100000 in
set_option maxHeartbeats 4000000 in
theorem k_T_line_b6 {p : Program} {l : Launch} {e : Env} {s : State} {m : MethodId} {args : Array Value} {below : List Frame} {meth : Method} {c : Code} {s0 : State} {A0 : Array Value} {G : Gx_t} {r : Outcome × Hs_t} {rm : Room} (hc : Cx_t p s m meth c s0 A0 l G y_T_line b_T_line 4 (some .int) []) (hrm : rm_Ok 2 12 82 1651 rm) : ∀ (n : Nat) (t0 : Nat) (x1 : Int32) (h0 : Hs_t) (H : Heap) (locs : List Loc) (ls : Array Slot), Rp_h G s0.heap h0 H → Lo_k s0 locs → lv_has ls 4 [(0, .ref t0), (1, .int x1)] → f_T_line_b6 n t0 x1 h0 = some r → W p l e rm s m args below meth c H locs 1 6 (xq_MQ G s0 below r s rm.cells rm.slots) (F0 m 6 ls []) := by
  have hx := hc.x
  have hb := hc.b
  obtain ⟨hm1, hm2, hm3, hm4⟩ := id hrm
  intro n
  induction n with
  | zero =>
    intro t0 x1 h0 H locs ls hR hLo hl heq
    unfold f_T_line_b6 at heq
    cases heq
  | succ n hr6 =>
    intro t0 x1 h0 H locs ls hR hLo hl heq
    unfold f_T_line_b6 at heq
    refine lv_iload_n hx hb d_T_line_6 rfl (lv_at hl 1 rfl) ?_
    refine lv_sipush (v := 160) hx hb d_T_line_7 (by decide) ?_
    refine lv_icmp_gt (tgt := 114) hx hb d_T_line_10 rfl (fun hq => ?_) (fun hq => ?_)
    · rw [if_pos hq] at heq
      refine lv_aload_n hx hb d_T_line_114 rfl (lv_at hl 0 rfl) ?_
      refine x_gA hc hR fl_T_31 heq d_T_line_115 (fun v1 heq => ?_)
      refine x_gI hc hR fl_T_111 heq d_T_line_118 (fun v2 heq => ?_)
      exact x_iret hc hR hLo ⟨by omega, by omega⟩ heq d_T_line_121
    · rw [if_neg hq] at heq
      refine lv_aload_n hx hb d_T_line_13 rfl (lv_at hl 0 rfl) ?_
      refine lv_iconst (v := 1) hx hb d_T_line_14 (by decide) ?_
      refine x_ck heq (fun tt fs ha ht heq => ?_)
      obtain rfl : tt = 0 := by simpa using ht
      refine x_bI (mc := 0) (ms := 0) (st := []) hc hLo heq ⟨by omega, by omega⟩ (fun r9 h9 => x_runV hc (c_T_request hc.g rm_T_request rk_T_request _ _ _ _ h9) md_T_request hR ha rfl wd_439 wd_441 sp_4 hl.1 ml_T_request rfl (Nat.le_of_ble_eq_true rfl) d_T_line_15 ⟨by show 81 + 1 ≤ _; omega, by show 8 + (3 + 11) + (1629) ≤ _; omega⟩ ⟨by show 1 + 0 ≤ _; omega, by show 6 + 0 ≤ _; omega⟩) (fun v3 h2 H locs hR hLo heq => ?_)
      refine lv_istore_n (lv' := [(2, .int v3), (0, .ref t0), (1, .int x1)]) hx hb d_T_line_18 rfl hl (by decide) rfl (fun ls hl => ?_)
      refine lv_iload_n hx hb d_T_line_19 rfl (lv_at hl 0 rfl) ?_
      refine lv_iconst (v := (-1)) hx hb d_T_line_20 (by decide) ?_
      refine lv_icmp_ne (tgt := 32) hx hb d_T_line_21 rfl (fun hq => ?_) (fun hq => ?_)
      · rw [if_neg hq] at heq
        refine lv_iload_n hx hb d_T_line_32 rfl (lv_at hl 0 rfl) ?_
        refine lv_if_ne (tgt := 58) hx hb d_T_line_33 rfl (fun hq => ?_) (fun hq => ?_)
        · rw [if_neg hq] at heq
          refine lv_aload_n hx hb d_T_line_58 rfl (lv_at hl 1 rfl) ?_
          refine x_gA hc hR fl_T_22 heq d_T_line_59 (fun v4 heq => ?_)
          refine lv_iconst (v := 0) hx hb d_T_line_62 (by decide) ?_
          refine x_aI hc hR heq d_T_line_63 (fun v5 heq => ?_)
          refine lv_istore_n (lv' := [(3, .int v5), (2, .int v3), (0, .ref t0), (1, .int x1)]) hx hb d_T_line_64 rfl hl (by decide) rfl (fun ls hl => ?_)
          refine lv_iload_n hx hb d_T_line_65 rfl (lv_at hl 0 rfl) ?_
          refine lv_bipush (v := 10) hx hb d_T_line_66 (by decide) ?_
          refine lv_icmp_eq (tgt := 77) hx hb d_T_line_68 rfl (fun hq => ?_) (fun hq => ?_)
          · rw [if_pos hq] at heq
            refine W.widen (k := 1) (n := 6) (by omega) (by omega) ?_
            exact k_T_line_b77 hc hrm t0 v5 h2 H locs ls hR hLo (lv_sub hl [2, 0] rfl) heq
          · rw [if_neg hq] at heq
            refine lv_iload_n hx hb d_T_line_71 rfl (lv_at hl 0 rfl) ?_
            refine lv_bipush (v := 13) hx hb d_T_line_72 (by decide) ?_
            refine lv_icmp_ne (tgt := 100) hx hb d_T_line_74 rfl (fun hq => ?_) (fun hq => ?_)
            · rw [if_neg hq] at heq
              refine lv_aload_n hx hb d_T_line_100 rfl (lv_at hl 2 rfl) ?_
              refine x_gA hc hR fl_T_31 heq d_T_line_101 (fun v6 heq => ?_)
              refine lv_iload_n hx hb d_T_line_104 rfl (lv_at hl 0 rfl) ?_
              refine x_ck heq (fun tt fs ha ht heq => ?_)
              obtain rfl : tt = 1 := by simpa using ht
              refine x_bV (mc := 0) (ms := 0) (st := []) hc hLo heq ⟨by omega, by omega⟩ (fun r9 h9 => x_runV hc (c_Row_add hc.g rm_Row_add rk_Row_add _ _ _ _ h9) md_Row_add hR ha rfl wd_573 wd_495 wd_496 hl.1 ml_Row_add rfl (Nat.le_of_ble_eq_true rfl) d_T_line_105 ⟨by show 0 + 1 ≤ _; omega, by show 8 + (2 + 11) + (0) ≤ _; omega⟩ ⟨by show 1 + 0 ≤ _; omega, by show 6 + 0 ≤ _; omega⟩) (fun h3 H locs hR hLo heq => ?_)
              refine lv_iinc (k := 3) (v := (x1 + 1)) (lv' := [(1, .int (x1 + 1)), (3, .int v5), (2, .int v3), (0, .ref t0)]) hx hb d_T_line_108 hl rfl rfl (by decide) rfl (fun ls hl => ?_)
              refine lv_goto (tgt := 6) hx hb d_T_line_111 rfl ?_
              refine W.widen (k := 1) (n := 6) (by omega) (by omega) ?_
              exact hr6 t0 (x1 + 1) h3 H locs ls hR hLo (lv_sub hl [3, 0] rfl) heq
            · rw [if_pos hq] at heq
              refine W.widen (k := 1) (n := 6) (by omega) (by omega) ?_
              exact k_T_line_b77 hc hrm t0 v5 h2 H locs ls hR hLo (lv_sub hl [2, 0] rfl) heq
        · rw [if_pos hq] at heq
          refine lv_aload_n hx hb d_T_line_36 rfl (lv_at hl 1 rfl) ?_
          refine x_gA hc hR fl_T_31 heq d_T_line_37 (fun v7 heq => ?_)
          refine x_gI hc hR fl_T_111 heq d_T_line_40 (fun v8 heq => ?_)
          refine lv_if_ne (tgt := 50) hx hb d_T_line_43 rfl (fun hq => ?_) (fun hq => ?_)
          · rw [if_neg hq] at heq
            refine lv_aload_n hx hb d_T_line_50 rfl (lv_at hl 1 rfl) ?_
            refine x_gA hc hR fl_T_31 heq d_T_line_51 (fun v9 heq => ?_)
            refine x_gI hc hR fl_T_111 heq d_T_line_54 (fun v10 heq => ?_)
            refine W.widen (k := 1) (n := 6) (by omega) (by omega) ?_
            exact k_T_line_b57 hc hrm v10 h2 H locs ls hR hLo (lv_sub hl [] rfl) heq
          · rw [if_pos hq] at heq
            refine lv_iconst (v := (-1)) hx hb d_T_line_46 (by decide) ?_
            refine lv_goto (tgt := 57) hx hb d_T_line_47 rfl ?_
            refine W.widen (k := 1) (n := 6) (by omega) (by omega) ?_
            exact k_T_line_b57 hc hrm (-1) h2 H locs ls hR hLo (lv_sub hl [] rfl) heq
      · rw [if_pos hq] at heq
        exact x_thr (names := ["java/lang/RuntimeException", "java/lang/Exception"]) hc hR hLo rfl (by decide +kernel) (by decide +kernel) wd_278 wd_10 tha_T_49 hl.1 d_T_line_24 d_T_line_27 d_T_line_28 d_T_line_31 ⟨by omega, by omega⟩ (by show 2 + 3 < _; omega) (by show 0 + (13 * (2 + 1) + 42) ≤ _; omega) heq
set_option maxRecDepth 100000 in
set_option maxHeartbeats 4000000 in
theorem c_T_line {l : Launch} {s0 : State} {A0 : Array Value} {G : Gx_t} (hG : G_0 l s0 A0 G) (rm : Room) (hrm : rm_Ok 2 12 82 1651 rm) (t0 : Nat) (h0 : Hs_t) (r : Outcome × Hs_t) (heq : f_T_line t0 h0 = some r) : M_X G s0 l y_T_line (.code y_T_line b_T_line 4 (some .int)) rm [.ref t0] h0 r := by
  refine M_X.of (by decide) hG (fun p e s m below meth c H hc hR => ?_)
  have hx := hc.x
  have hb := hc.b
  obtain ⟨hm1, hm2, hm3, hm4⟩ := id hrm
  have hLo : Lo_k s0 [] := fun _ hq => absurd hq List.not_mem_nil
  have hl := lv_entry ([.ref t0]) (n := 4) (Nat.le_of_ble_eq_true rfl)
  rw [lg_entry_eq]
  generalize (lg_sl ([.ref t0]) ++ List.replicate (4 - (lg_sl ([.ref t0])).length) Slot.unset).toArray = ls at hl ⊢
  have hl : lv_has ls 4 [(0, .ref t0)] := hl
  generalize hle : ([] : List Loc) = locs at hLo ⊢
  unfold f_T_line at heq
  refine lv_aload_n hx hb d_T_line_0 rfl (lv_at hl 0 rfl) ?_
  refine x_ck heq (fun tt fs ha ht heq => ?_)
  obtain rfl : tt = 0 := by simpa using ht
  refine x_bV (mc := 1) (ms := 6) (st := []) hc hLo heq ⟨by omega, by omega⟩ (fun r9 h9 => x_runV hc (c_T_startReading hc.g rm_T_startReading rk_T_startReading _ _ _ h9) md_T_startReading hR ha rfl wd_427 wd_429 sp_2 hl.1 ml_T_startReading rfl (Nat.le_of_ble_eq_true rfl) d_T_line_1 ⟨by show 7 + 1 ≤ _; omega, by show 8 + (1 + 11) + (101) ≤ _; omega⟩ ⟨by show 0 + 1 ≤ _; omega, by show 0 + 6 ≤ _; omega⟩) (fun h1 H locs hR hLo heq => ?_)
  refine lv_iconst (v := 0) hx hb d_T_line_4 (by decide) ?_
  refine lv_istore_n (lv' := [(1, .int 0), (0, .ref t0)]) hx hb d_T_line_5 rfl hl (by decide) rfl (fun ls hl => ?_)
  refine W.widen (k := 1) (n := 6) (by omega) (by omega) ?_
  exact k_T_line_b6 hc hrm fu_N t0 0 h1 H locs ls hR hLo (lv_sub hl [1, 0] rfl) heq
def rm_T_line : Room := { frames := 82, cells := 2, slots := 12, locals := 1651 }
theorem rk_T_line : rm_Ok 2 12 82 1651 rm_T_line := ⟨Nat.le_refl _, Nat.le_refl _, Nat.le_refl _, Nat.le_refl _⟩
def f_T_mark_b14 (h0 : Hs_t) : Rs_t := th_N 9 h0
def f_T_mark (t0 : Nat) (x1 : Int32) (h0 : Hs_t) : Rs_t := (ck_T [0] h0 t0).bind fun _ => bd_V (f_T_refuseWhenClosed t0 h0) (fun h1 => if x1 < 0 then (f_T_mark_b14 h1) else (if x1 ≤ 32 then ((fd_A [0] 5 h1 t0).bind fun v1 => bd_I (v_canBeMarked dp_N v1 h1) (fun v2 h2 => if v2 = 0 then (th_N 12 h2) else ((fd_A [0] 5 h2 t0).bind fun v3 => bd_V (v_takeMark dp_N v3 x1 h2) (fun h3 => (fd_I [0] 8 h3 t0).bind fun v4 => (pt_Z [0] 9 h3 t0 v4).bind fun h4 => re_V h4)))) else (f_T_mark_b14 h1)))
set_option maxRecDepth 100000 in
set_option maxHeartbeats 4000000 in
theorem k_T_mark_b14 {p : Program} {l : Launch} {e : Env} {s : State} {m : MethodId} {args : Array Value} {below : List Frame} {meth : Method} {c : Code} {s0 : State} {A0 : Array Value} {G : Gx_t} {r : Outcome × Hs_t} {rm : Room} (hc : Cx_t p s m meth c s0 A0 l G y_T_mark b_T_mark 2 none []) (hrm : rm_Ok 2 12 81 1629 rm) : ∀  (h0 : Hs_t) (H : Heap) (locs : List Loc) (ls : Array Slot), Rp_h G s0.heap h0 H → Lo_k s0 locs → lv_has ls 2 [] → f_T_mark_b14  h0 = some r → W p l e rm s m args below meth c H locs 1 6 (xq_MQ G s0 below r s rm.cells rm.slots) (F0 m 14 ls []) := by
  have hx := hc.x
  have hb := hc.b
  obtain ⟨hm1, hm2, hm3, hm4⟩ := id hrm
  intro  h0 H locs ls hR hLo hl heq
  unfold f_T_mark_b14 at heq
  exact x_thr (names := ["java/lang/RuntimeException", "java/lang/Exception"]) hc hR hLo rfl (by decide +kernel) (by decide +kernel) wd_210 wd_9 tha_T_42 hl.1 d_T_mark_14 d_T_mark_17 d_T_mark_18 d_T_mark_21 ⟨by omega, by omega⟩ (by show 2 + 3 < _; omega) (by show 0 + (13 * (2 + 1) + 42) ≤ _; omega) heq
set_option maxRecDepth 100000 in
set_option maxHeartbeats 4000000 in
theorem c_T_mark {l : Launch} {s0 : State} {A0 : Array Value} {G : Gx_t} (hG : G_0 l s0 A0 G) (rm : Room) (hrm : rm_Ok 2 12 81 1629 rm) (t0 : Nat) (x1 : Int32) (h0 : Hs_t) (r : Outcome × Hs_t) (heq : f_T_mark t0 x1 h0 = some r) : M_X G s0 l y_T_mark (.code y_T_mark b_T_mark 2 none) rm [.ref t0, .int x1] h0 r := by
  refine M_X.of (by decide) hG (fun p e s m below meth c H hc hR => ?_)
  have hx := hc.x
  have hb := hc.b
  obtain ⟨hm1, hm2, hm3, hm4⟩ := id hrm
  have hLo : Lo_k s0 [] := fun _ hq => absurd hq List.not_mem_nil
  have hl := lv_entry ([.ref t0, .int x1]) (n := 2) (Nat.le_of_ble_eq_true rfl)
  rw [lg_entry_eq]
  generalize (lg_sl ([.ref t0, .int x1]) ++ List.replicate (2 - (lg_sl ([.ref t0, .int x1])).length) Slot.unset).toArray = ls at hl ⊢
  have hl : lv_has ls 2 [(0, .ref t0), (1, .int x1)] := hl
  generalize hle : ([] : List Loc) = locs at hLo ⊢
  unfold f_T_mark at heq
  refine lv_aload_n hx hb d_T_mark_0 rfl (lv_at hl 0 rfl) ?_
  refine x_ck heq (fun tt fs ha ht heq => ?_)
  obtain rfl : tt = 0 := by simpa using ht
  refine x_bV (mc := 1) (ms := 6) (st := []) hc hLo heq ⟨by omega, by omega⟩ (fun r9 h9 => x_runV hc (c_T_refuseWhenClosed hc.g rm_T_refuseWhenClosed rk_T_refuseWhenClosed _ _ _ h9) md_T_refuseWhenClosed hR ha rfl wd_435 wd_437 sp_3 hl.1 ml_T_refuseWhenClosed rfl (Nat.le_of_ble_eq_true rfl) d_T_mark_1 ⟨by show 6 + 1 ≤ _; omega, by show 8 + (1 + 11) + (81) ≤ _; omega⟩ ⟨by show 0 + 1 ≤ _; omega, by show 0 + 6 ≤ _; omega⟩) (fun h1 H locs hR hLo heq => ?_)
  refine lv_iload_n hx hb d_T_mark_4 rfl (lv_at hl 1 rfl) ?_
  refine lv_if_lt (tgt := 14) hx hb d_T_mark_5 rfl (fun hq => ?_) (fun hq => ?_)
  · rw [if_pos hq] at heq
    refine W.widen (k := 1) (n := 6) (by omega) (by omega) ?_
    exact k_T_mark_b14 hc hrm h1 H locs ls hR hLo (lv_sub hl [] rfl) heq
  · rw [if_neg hq] at heq
    refine lv_iload_n hx hb d_T_mark_8 rfl (lv_at hl 1 rfl) ?_
    refine lv_bipush (v := 32) hx hb d_T_mark_9 (by decide) ?_
    refine lv_icmp_le (tgt := 22) hx hb d_T_mark_11 rfl (fun hq => ?_) (fun hq => ?_)
    · rw [if_pos hq] at heq
      refine lv_aload_n hx hb d_T_mark_22 rfl (lv_at hl 0 rfl) ?_
      refine x_gA hc hR fl_T_38 heq d_T_mark_23 (fun v1 heq => ?_)
      refine x_bI (mc := 0) (ms := 0) (st := []) hc hLo heq ⟨by omega, by omega⟩ (fun r9 h9 => x_runW hc (vk_canBeMarked hc.g dp_N _ _ _ h9) hR wd_589 wd_591 (Or.inr ⟨_, _, _, wd_590, wd_603⟩) (by decide) hl.1 xl_canBeMarked rfl (Nat.le_of_ble_eq_true rfl) d_T_mark_26 ⟨by show 80 + 1 ≤ _; omega, by show 8 + (10 + 11) + (1600) ≤ _; omega⟩ ⟨by show 1 + 0 ≤ _; omega, by show 6 + 0 ≤ _; omega⟩) (fun v2 h2 H locs hR hLo heq => ?_)
      refine lv_if_ne (tgt := 40) hx hb d_T_mark_29 rfl (fun hq => ?_) (fun hq => ?_)
      · rw [if_neg hq] at heq
        refine lv_aload_n hx hb d_T_mark_40 rfl (lv_at hl 0 rfl) ?_
        refine x_gA hc hR fl_T_38 heq d_T_mark_41 (fun v3 heq => ?_)
        refine lv_iload_n hx hb d_T_mark_44 rfl (lv_at hl 1 rfl) ?_
        refine x_bV (mc := 0) (ms := 0) (st := []) hc hLo heq ⟨by omega, by omega⟩ (fun r9 h9 => x_runW hc (vk_takeMark hc.g dp_N _ _ _ _ h9) hR wd_619 wd_621 (Or.inr ⟨_, _, _, wd_620, wd_645⟩) (by decide) hl.1 xl_takeMark rfl (Nat.le_of_ble_eq_true rfl) d_T_mark_45 ⟨by show 80 + 1 ≤ _; omega, by show 8 + (10 + 11) + (1600) ≤ _; omega⟩ ⟨by show 1 + 0 ≤ _; omega, by show 6 + 0 ≤ _; omega⟩) (fun h3 H locs hR hLo heq => ?_)
        refine lv_aload_n hx hb d_T_mark_48 rfl (lv_at hl 0 rfl) ?_
        refine lv_aload_n hx hb d_T_mark_49 rfl (lv_at hl 0 rfl) ?_
        refine x_gI hc hR fl_T_112 heq d_T_mark_50 (fun v4 heq => ?_)
        refine x_pZ hc hR hLo fl_T_131 (Or.inl rfl) heq d_T_mark_53 (fun h4 H locs hR hLo heq => ?_)
        exact x_vret hc hR hLo ⟨by omega, by omega⟩ heq d_T_mark_56
      · rw [if_pos hq] at heq
        exact x_thr (names := ["java/lang/RuntimeException", "java/lang/Exception"]) hc hR hLo rfl (by decide +kernel) (by decide +kernel) wd_604 wd_20 tha_T_125 hl.1 d_T_mark_32 d_T_mark_35 d_T_mark_36 d_T_mark_39 ⟨by omega, by omega⟩ (by show 2 + 3 < _; omega) (by show 0 + (13 * (2 + 1) + 42) ≤ _; omega) heq
    · rw [if_neg hq] at heq
      refine W.widen (k := 1) (n := 6) (by omega) (by omega) ?_
      exact k_T_mark_b14 hc hrm h1 H locs ls hR hLo (lv_sub hl [] rfl) heq
def rm_T_mark : Room := { frames := 81, cells := 2, slots := 12, locals := 1629 }
theorem rk_T_mark : rm_Ok 2 12 81 1629 rm_T_mark := ⟨Nat.le_refl _, Nat.le_refl _, Nat.le_refl _, Nat.le_refl _⟩
def f_T_reset (t0 : Nat) (h0 : Hs_t) : Rs_t := (ck_T [0] h0 t0).bind fun _ => bd_V (f_T_refuseWhenClosed t0 h0) (fun h1 => (fd_A [0] 5 h1 t0).bind fun v1 => bd_I (v_canBeMarked dp_N v1 h1) (fun v2 h2 => if v2 = 0 then (th_N 12 h2) else ((fd_A [0] 5 h2 t0).bind fun v3 => bd_I (v_hasMark dp_N v3 h2) (fun v4 h3 => if v4 = 0 then (th_N 10 h3) else ((fd_A [0] 5 h3 t0).bind fun v5 => bd_V (v_goBack dp_N v5 h3) (fun h4 => (fd_I [0] 9 h4 t0).bind fun v6 => (pt_Z [0] 8 h4 t0 v6).bind fun h5 => re_V h5))))))
set_option maxRecDepth 100000 in
set_option maxHeartbeats 4000000 in
theorem c_T_reset {l : Launch} {s0 : State} {A0 : Array Value} {G : Gx_t} (hG : G_0 l s0 A0 G) (rm : Room) (hrm : rm_Ok 2 12 81 1629 rm) (t0 : Nat) (h0 : Hs_t) (r : Outcome × Hs_t) (heq : f_T_reset t0 h0 = some r) : M_X G s0 l y_T_reset (.code y_T_reset b_T_reset 1 none) rm [.ref t0] h0 r := by
  refine M_X.of (by decide) hG (fun p e s m below meth c H hc hR => ?_)
  have hx := hc.x
  have hb := hc.b
  obtain ⟨hm1, hm2, hm3, hm4⟩ := id hrm
  have hLo : Lo_k s0 [] := fun _ hq => absurd hq List.not_mem_nil
  have hl := lv_entry ([.ref t0]) (n := 1) (Nat.le_of_ble_eq_true rfl)
  rw [lg_entry_eq]
  generalize (lg_sl ([.ref t0]) ++ List.replicate (1 - (lg_sl ([.ref t0])).length) Slot.unset).toArray = ls at hl ⊢
  have hl : lv_has ls 1 [(0, .ref t0)] := hl
  generalize hle : ([] : List Loc) = locs at hLo ⊢
  unfold f_T_reset at heq
  refine lv_aload_n hx hb d_T_reset_0 rfl (lv_at hl 0 rfl) ?_
  refine x_ck heq (fun tt fs ha ht heq => ?_)
  obtain rfl : tt = 0 := by simpa using ht
  refine x_bV (mc := 1) (ms := 6) (st := []) hc hLo heq ⟨by omega, by omega⟩ (fun r9 h9 => x_runV hc (c_T_refuseWhenClosed hc.g rm_T_refuseWhenClosed rk_T_refuseWhenClosed _ _ _ h9) md_T_refuseWhenClosed hR ha rfl wd_435 wd_437 sp_3 hl.1 ml_T_refuseWhenClosed rfl (Nat.le_of_ble_eq_true rfl) d_T_reset_1 ⟨by show 6 + 1 ≤ _; omega, by show 8 + (1 + 11) + (81) ≤ _; omega⟩ ⟨by show 0 + 1 ≤ _; omega, by show 0 + 6 ≤ _; omega⟩) (fun h1 H locs hR hLo heq => ?_)
  refine lv_aload_n hx hb d_T_reset_4 rfl (lv_at hl 0 rfl) ?_
  refine x_gA hc hR fl_T_38 heq d_T_reset_5 (fun v1 heq => ?_)
  refine x_bI (mc := 0) (ms := 0) (st := []) hc hLo heq ⟨by omega, by omega⟩ (fun r9 h9 => x_runW hc (vk_canBeMarked hc.g dp_N _ _ _ h9) hR wd_589 wd_591 (Or.inr ⟨_, _, _, wd_590, wd_603⟩) (by decide) hl.1 xl_canBeMarked rfl (Nat.le_of_ble_eq_true rfl) d_T_reset_8 ⟨by show 80 + 1 ≤ _; omega, by show 8 + (10 + 11) + (1600) ≤ _; omega⟩ ⟨by show 1 + 0 ≤ _; omega, by show 6 + 0 ≤ _; omega⟩) (fun v2 h2 H locs hR hLo heq => ?_)
  refine lv_if_ne (tgt := 22) hx hb d_T_reset_11 rfl (fun hq => ?_) (fun hq => ?_)
  · rw [if_neg hq] at heq
    refine lv_aload_n hx hb d_T_reset_22 rfl (lv_at hl 0 rfl) ?_
    refine x_gA hc hR fl_T_38 heq d_T_reset_23 (fun v3 heq => ?_)
    refine x_bI (mc := 0) (ms := 0) (st := []) hc hLo heq ⟨by omega, by omega⟩ (fun r9 h9 => x_runW hc (vk_hasMark hc.g dp_N _ _ _ h9) hR wd_653 wd_655 (Or.inr ⟨_, _, _, wd_654, wd_667⟩) (by decide) hl.1 xl_hasMark rfl (Nat.le_of_ble_eq_true rfl) d_T_reset_26 ⟨by show 80 + 1 ≤ _; omega, by show 8 + (10 + 11) + (1600) ≤ _; omega⟩ ⟨by show 1 + 0 ≤ _; omega, by show 6 + 0 ≤ _; omega⟩) (fun v4 h3 H locs hR hLo heq => ?_)
    refine lv_if_ne (tgt := 40) hx hb d_T_reset_29 rfl (fun hq => ?_) (fun hq => ?_)
    · rw [if_neg hq] at heq
      refine lv_aload_n hx hb d_T_reset_40 rfl (lv_at hl 0 rfl) ?_
      refine x_gA hc hR fl_T_38 heq d_T_reset_41 (fun v5 heq => ?_)
      refine x_bV (mc := 0) (ms := 0) (st := []) hc hLo heq ⟨by omega, by omega⟩ (fun r9 h9 => x_runW hc (vk_goBack hc.g dp_N _ _ _ h9) hR wd_668 wd_670 (Or.inr ⟨_, _, _, wd_669, wd_694⟩) (by decide) hl.1 xl_goBack rfl (Nat.le_of_ble_eq_true rfl) d_T_reset_44 ⟨by show 80 + 1 ≤ _; omega, by show 8 + (10 + 11) + (1600) ≤ _; omega⟩ ⟨by show 1 + 0 ≤ _; omega, by show 6 + 0 ≤ _; omega⟩) (fun h4 H locs hR hLo heq => ?_)
      refine lv_aload_n hx hb d_T_reset_47 rfl (lv_at hl 0 rfl) ?_
      refine lv_aload_n hx hb d_T_reset_48 rfl (lv_at hl 0 rfl) ?_
      refine x_gI hc hR fl_T_131 heq d_T_reset_49 (fun v6 heq => ?_)
      refine x_pZ hc hR hLo fl_T_112 (Or.inl rfl) heq d_T_reset_52 (fun h5 H locs hR hLo heq => ?_)
      exact x_vret hc hR hLo ⟨by omega, by omega⟩ heq d_T_reset_55
    · rw [if_pos hq] at heq
      exact x_thr (names := ["java/lang/RuntimeException", "java/lang/Exception"]) hc hR hLo rfl (by decide +kernel) (by decide +kernel) wd_278 wd_10 tha_T_49 hl.1 d_T_reset_32 d_T_reset_35 d_T_reset_36 d_T_reset_39 ⟨by omega, by omega⟩ (by show 2 + 3 < _; omega) (by show 0 + (13 * (2 + 1) + 42) ≤ _; omega) heq
  · rw [if_pos hq] at heq
    exact x_thr (names := ["java/lang/RuntimeException", "java/lang/Exception"]) hc hR hLo rfl (by decide +kernel) (by decide +kernel) wd_604 wd_20 tha_T_125 hl.1 d_T_reset_14 d_T_reset_17 d_T_reset_18 d_T_reset_21 ⟨by omega, by omega⟩ (by show 2 + 3 < _; omega) (by show 0 + (13 * (2 + 1) + 42) ≤ _; omega) heq
def rm_T_reset : Room := { frames := 81, cells := 2, slots := 12, locals := 1629 }
theorem rk_T_reset : rm_Ok 2 12 81 1629 rm_T_reset := ⟨Nat.le_refl _, Nat.le_refl _, Nat.le_refl _, Nat.le_refl _⟩
def f_T_unread_b15 (h0 : Hs_t) : Rs_t := th_N 9 h0
def f_T_unread (t0 : Nat) (x1 : Int32) (h0 : Hs_t) : Rs_t := (ck_T [0] h0 t0).bind fun _ => bd_V (f_T_refuseWhenClosed t0 h0) (fun h1 => if x1 < 0 then (f_T_unread_b15 h1) else (if x1 ≤ 255 then ((fd_A [0] 5 h1 t0).bind fun v1 => (is_T [4] [2, 3, 5, 6, 7] h1 v1).bind fun v2 => if v2 = 0 then (th_N 12 h1) else ((fd_A [0] 5 h1 t0).bind fun v3 => (ck_T [4] h1 v3).bind fun _ => (ck_T [4] h1 v3).bind fun _ => bd_I (f_Psh_putBack v3 x1 h1) (fun v4 h2 => if v4 = 0 then (th_N 10 h2) else (re_V h2)))) else (f_T_unread_b15 h1)))
set_option maxRecDepth 100000 in
set_option maxHeartbeats 4000000 in
theorem k_T_unread_b15 {p : Program} {l : Launch} {e : Env} {s : State} {m : MethodId} {args : Array Value} {below : List Frame} {meth : Method} {c : Code} {s0 : State} {A0 : Array Value} {G : Gx_t} {r : Outcome × Hs_t} {rm : Room} (hc : Cx_t p s m meth c s0 A0 l G y_T_unread b_T_unread 3 none []) (hrm : rm_Ok 2 12 7 101 rm) : ∀  (h0 : Hs_t) (H : Heap) (locs : List Loc) (ls : Array Slot), Rp_h G s0.heap h0 H → Lo_k s0 locs → lv_has ls 3 [] → f_T_unread_b15  h0 = some r → W p l e rm s m args below meth c H locs 1 6 (xq_MQ G s0 below r s rm.cells rm.slots) (F0 m 15 ls []) := by
  have hx := hc.x
  have hb := hc.b
  obtain ⟨hm1, hm2, hm3, hm4⟩ := id hrm
  intro  h0 H locs ls hR hLo hl heq
  unfold f_T_unread_b15 at heq
  exact x_thr (names := ["java/lang/RuntimeException", "java/lang/Exception"]) hc hR hLo rfl (by decide +kernel) (by decide +kernel) wd_210 wd_9 tha_T_42 hl.1 d_T_unread_15 d_T_unread_18 d_T_unread_19 d_T_unread_22 ⟨by omega, by omega⟩ (by show 2 + 3 < _; omega) (by show 0 + (13 * (2 + 1) + 42) ≤ _; omega) heq
set_option maxRecDepth 100000 in
set_option maxHeartbeats 4000000 in
theorem c_T_unread {l : Launch} {s0 : State} {A0 : Array Value} {G : Gx_t} (hG : G_0 l s0 A0 G) (rm : Room) (hrm : rm_Ok 2 12 7 101 rm) (t0 : Nat) (x1 : Int32) (h0 : Hs_t) (r : Outcome × Hs_t) (heq : f_T_unread t0 x1 h0 = some r) : M_X G s0 l y_T_unread (.code y_T_unread b_T_unread 3 none) rm [.ref t0, .int x1] h0 r := by
  refine M_X.of (by decide) hG (fun p e s m below meth c H hc hR => ?_)
  have hx := hc.x
  have hb := hc.b
  obtain ⟨hm1, hm2, hm3, hm4⟩ := id hrm
  have hLo : Lo_k s0 [] := fun _ hq => absurd hq List.not_mem_nil
  have hl := lv_entry ([.ref t0, .int x1]) (n := 3) (Nat.le_of_ble_eq_true rfl)
  rw [lg_entry_eq]
  generalize (lg_sl ([.ref t0, .int x1]) ++ List.replicate (3 - (lg_sl ([.ref t0, .int x1])).length) Slot.unset).toArray = ls at hl ⊢
  have hl : lv_has ls 3 [(0, .ref t0), (1, .int x1)] := hl
  generalize hle : ([] : List Loc) = locs at hLo ⊢
  unfold f_T_unread at heq
  refine lv_aload_n hx hb d_T_unread_0 rfl (lv_at hl 0 rfl) ?_
  refine x_ck heq (fun tt fs ha ht heq => ?_)
  obtain rfl : tt = 0 := by simpa using ht
  refine x_bV (mc := 1) (ms := 6) (st := []) hc hLo heq ⟨by omega, by omega⟩ (fun r9 h9 => x_runV hc (c_T_refuseWhenClosed hc.g rm_T_refuseWhenClosed rk_T_refuseWhenClosed _ _ _ h9) md_T_refuseWhenClosed hR ha rfl wd_435 wd_437 sp_3 hl.1 ml_T_refuseWhenClosed rfl (Nat.le_of_ble_eq_true rfl) d_T_unread_1 ⟨by show 6 + 1 ≤ _; omega, by show 8 + (1 + 11) + (81) ≤ _; omega⟩ ⟨by show 0 + 1 ≤ _; omega, by show 0 + 6 ≤ _; omega⟩) (fun h1 H locs hR hLo heq => ?_)
  refine lv_iload_n hx hb d_T_unread_4 rfl (lv_at hl 1 rfl) ?_
  refine lv_if_lt (tgt := 15) hx hb d_T_unread_5 rfl (fun hq => ?_) (fun hq => ?_)
  · rw [if_pos hq] at heq
    refine W.widen (k := 1) (n := 6) (by omega) (by omega) ?_
    exact k_T_unread_b15 hc hrm h1 H locs ls hR hLo (lv_sub hl [] rfl) heq
  · rw [if_neg hq] at heq
    refine lv_iload_n hx hb d_T_unread_8 rfl (lv_at hl 1 rfl) ?_
    refine lv_sipush (v := 255) hx hb d_T_unread_9 (by decide) ?_
    refine lv_icmp_le (tgt := 23) hx hb d_T_unread_12 rfl (fun hq => ?_) (fun hq => ?_)
    · rw [if_pos hq] at heq
      refine lv_aload_n hx hb d_T_unread_23 rfl (lv_at hl 0 rfl) ?_
      refine x_gA hc hR fl_T_38 heq d_T_unread_24 (fun v1 heq => ?_)
      refine x_inst hc hR wd_342 ct_T_140 (fun t ht => by simp only [List.mem_cons, List.not_mem_nil, or_false] at ht; rcases ht with rfl | rfl | rfl | rfl | rfl <;> exact ⟨_, _, _, rfl, hc.nc (by decide +kernel)⟩) heq d_T_unread_27 (fun v2 heq => ?_)
      refine lv_if_ne (tgt := 41) hx hb d_T_unread_30 rfl (fun hq => ?_) (fun hq => ?_)
      · rw [if_neg hq] at heq
        refine lv_aload_n hx hb d_T_unread_41 rfl (lv_at hl 0 rfl) ?_
        refine x_gA hc hR fl_T_38 heq d_T_unread_42 (fun v3 heq => ?_)
        refine x_ck heq (fun tt fs ha ht heq => ?_)
        refine x_cast hc hR wd_342 ct_T_140 ha ht d_T_unread_45 ?_
        refine lv_astore_n (lv' := [(2, .ref v3), (0, .ref t0), (1, .int x1)]) hx hb d_T_unread_48 rfl hl (by decide) rfl (fun ls hl => ?_)
        refine lv_aload_n hx hb d_T_unread_49 rfl (lv_at hl 0 rfl) ?_
        refine lv_iload_n hx hb d_T_unread_50 rfl (lv_at hl 2 rfl) ?_
        refine x_ck heq (fun tt fs ha ht heq => ?_)
        obtain rfl : tt = 4 := by simpa using ht
        refine x_bI (mc := 0) (ms := 0) (st := []) hc hLo heq ⟨by omega, by omega⟩ (fun r9 h9 => x_runV hc (c_Psh_putBack hc.g rm_Psh_putBack rk_Psh_putBack _ _ _ _ h9) md_Psh_putBack hR ha rfl wd_702 wd_703 wd_704 hl.1 ml_Psh_putBack rfl (Nat.le_of_ble_eq_true rfl) d_T_unread_51 ⟨by show 0 + 1 ≤ _; omega, by show 8 + (2 + 11) + (0) ≤ _; omega⟩ ⟨by show 1 + 0 ≤ _; omega, by show 6 + 0 ≤ _; omega⟩) (fun v4 h2 H locs hR hLo heq => ?_)
        refine lv_if_ne (tgt := 65) hx hb d_T_unread_54 rfl (fun hq => ?_) (fun hq => ?_)
        · rw [if_neg hq] at heq
          exact x_vret hc hR hLo ⟨by omega, by omega⟩ heq d_T_unread_65
        · rw [if_pos hq] at heq
          exact x_thr (names := ["java/lang/RuntimeException", "java/lang/Exception"]) hc hR hLo rfl (by decide +kernel) (by decide +kernel) wd_278 wd_10 tha_T_49 hl.1 d_T_unread_57 d_T_unread_60 d_T_unread_61 d_T_unread_64 ⟨by omega, by omega⟩ (by show 2 + 3 < _; omega) (by show 0 + (13 * (2 + 1) + 42) ≤ _; omega) heq
      · rw [if_pos hq] at heq
        exact x_thr (names := ["java/lang/RuntimeException", "java/lang/Exception"]) hc hR hLo rfl (by decide +kernel) (by decide +kernel) wd_604 wd_20 tha_T_125 hl.1 d_T_unread_33 d_T_unread_36 d_T_unread_37 d_T_unread_40 ⟨by omega, by omega⟩ (by show 2 + 3 < _; omega) (by show 0 + (13 * (2 + 1) + 42) ≤ _; omega) heq
    · rw [if_neg hq] at heq
      refine W.widen (k := 1) (n := 6) (by omega) (by omega) ?_
      exact k_T_unread_b15 hc hrm h1 H locs ls hR hLo (lv_sub hl [] rfl) heq
def rm_T_unread : Room := { frames := 7, cells := 2, slots := 12, locals := 101 }
theorem rk_T_unread : rm_Ok 2 12 7 101 rm_T_unread := ⟨Nat.le_refl _, Nat.le_refl _, Nat.le_refl _, Nat.le_refl _⟩
def f_T_available (t0 : Nat) (h0 : Hs_t) : Rs_t := (fd_A [0] 5 h0 t0).bind fun v1 => bd_I (v_ready dp_N v1 h0) (fun v2 h1 => re_I v2 h1)
set_option maxRecDepth 100000 in
set_option maxHeartbeats 4000000 in
theorem c_T_available {l : Launch} {s0 : State} {A0 : Array Value} {G : Gx_t} (hG : G_0 l s0 A0 G) (rm : Room) (hrm : rm_Ok 0 0 81 1629 rm) (t0 : Nat) (h0 : Hs_t) (r : Outcome × Hs_t) (heq : f_T_available t0 h0 = some r) : M_X G s0 l y_T_available (.code y_T_available b_T_available 1 (some .int)) rm [.ref t0] h0 r := by
  refine M_X.of (by decide) hG (fun p e s m below meth c H hc hR => ?_)
  have hx := hc.x
  have hb := hc.b
  obtain ⟨hm1, hm2, hm3, hm4⟩ := id hrm
  have hLo : Lo_k s0 [] := fun _ hq => absurd hq List.not_mem_nil
  have hl := lv_entry ([.ref t0]) (n := 1) (Nat.le_of_ble_eq_true rfl)
  rw [lg_entry_eq]
  generalize (lg_sl ([.ref t0]) ++ List.replicate (1 - (lg_sl ([.ref t0])).length) Slot.unset).toArray = ls at hl ⊢
  have hl : lv_has ls 1 [(0, .ref t0)] := hl
  generalize hle : ([] : List Loc) = locs at hLo ⊢
  unfold f_T_available at heq
  refine lv_aload_n hx hb d_T_available_0 rfl (lv_at hl 0 rfl) ?_
  refine x_gA hc hR fl_T_38 heq d_T_available_1 (fun v1 heq => ?_)
  refine x_bI (mc := 0) (ms := 0) (st := []) hc hLo heq ⟨by omega, by omega⟩ (fun r9 h9 => x_runW hc (vk_ready hc.g dp_N _ _ _ h9) hR wd_128 wd_130 (Or.inl wd_129) (by decide) hl.1 xl_ready rfl (Nat.le_of_ble_eq_true rfl) d_T_available_4 ⟨by show 80 + 1 ≤ _; omega, by show 8 + (10 + 11) + (1600) ≤ _; omega⟩ ⟨by show 0 + 0 ≤ _; omega, by show 0 + 0 ≤ _; omega⟩) (fun v2 h1 H locs hR hLo heq => ?_)
  exact x_iret hc hR hLo ⟨by omega, by omega⟩ heq d_T_available_7
def rm_T_available : Room := { frames := 81, cells := 0, slots := 0, locals := 1629 }
theorem rk_T_available : rm_Ok 0 0 81 1629 rm_T_available := ⟨Nat.le_refl _, Nat.le_refl _, Nat.le_refl _, Nat.le_refl _⟩
def f_T_close (t0 : Nat) (h0 : Hs_t) : Rs_t := (pt_Z [0] 7 h0 t0 1).bind fun h1 => re_V h1
set_option maxRecDepth 100000 in
set_option maxHeartbeats 4000000 in
theorem c_T_close {l : Launch} {s0 : State} {A0 : Array Value} {G : Gx_t} (hG : G_0 l s0 A0 G) (rm : Room) (hrm : rm_Ok 0 0 0 0 rm) (t0 : Nat) (h0 : Hs_t) (r : Outcome × Hs_t) (heq : f_T_close t0 h0 = some r) : M_X G s0 l y_T_close (.code y_T_close b_T_close 1 none) rm [.ref t0] h0 r := by
  refine M_X.of (by decide) hG (fun p e s m below meth c H hc hR => ?_)
  have hx := hc.x
  have hb := hc.b
  obtain ⟨hm1, hm2, hm3, hm4⟩ := id hrm
  have hLo : Lo_k s0 [] := fun _ hq => absurd hq List.not_mem_nil
  have hl := lv_entry ([.ref t0]) (n := 1) (Nat.le_of_ble_eq_true rfl)
  rw [lg_entry_eq]
  generalize (lg_sl ([.ref t0]) ++ List.replicate (1 - (lg_sl ([.ref t0])).length) Slot.unset).toArray = ls at hl ⊢
  have hl : lv_has ls 1 [(0, .ref t0)] := hl
  generalize hle : ([] : List Loc) = locs at hLo ⊢
  unfold f_T_close at heq
  refine lv_aload_n hx hb d_T_close_0 rfl (lv_at hl 0 rfl) ?_
  refine lv_iconst (v := 1) hx hb d_T_close_1 (by decide) ?_
  refine x_pZ hc hR hLo fl_T_72 (Or.inl rfl) heq d_T_close_2 (fun h1 H locs hR hLo heq => ?_)
  exact x_vret hc hR hLo ⟨by omega, by omega⟩ heq d_T_close_5
def rm_T_close : Room := { frames := 0, cells := 0, slots := 0, locals := 0 }
theorem rk_T_close : rm_Ok 0 0 0 0 rm_T_close := ⟨Nat.le_refl _, Nat.le_refl _, Nat.le_refl _, Nat.le_refl _⟩
def f_T_about_b26 (h0 : Hs_t) : Rs_t := re_I (-1) h0
def f_T_about_b47 (sv0 : Int32) (h0 : Hs_t) : Rs_t := re_I sv0 h0
def f_T_about (t0 : Nat) (x1 : Int32) (h0 : Hs_t) : Rs_t := if x1 = (-1) then ((fd_A [0] 0 h0 t0).bind fun v6 => (ck_T [2] h0 v6).bind fun _ => bd_I (f_Src_state v6 h0) (fun v7 h2 => re_I v7 h2)) else (if x1 < 0 then (f_T_about_b26 h0) else ((fd_A [0] 1 h0 t0).bind fun v1 => (ln_A h0 v1).bind fun v2 => if x1 < v2 then ((fd_A [0] 1 h0 t0).bind fun v3 => (ar_R h0 v3 x1).bind fun ov4 => match ov4 with | none => f_T_about_b47 (-1) h0 | some v4 => bd_I (v_state v4 h0) (fun v5 h1 => f_T_about_b47 v5 h1)) else (f_T_about_b26 h0)))
set_option maxRecDepth 100000 in
set_option maxHeartbeats 4000000 in
theorem k_T_about_b26 {p : Program} {l : Launch} {e : Env} {s : State} {m : MethodId} {args : Array Value} {below : List Frame} {meth : Method} {c : Code} {s0 : State} {A0 : Array Value} {G : Gx_t} {r : Outcome × Hs_t} {rm : Room} (hc : Cx_t p s m meth c s0 A0 l G y_T_about b_T_about 3 (some .int) []) (hrm : rm_Ok 0 0 81 1629 rm) : ∀  (h0 : Hs_t) (H : Heap) (locs : List Loc) (ls : Array Slot), Rp_h G s0.heap h0 H → Lo_k s0 locs → lv_has ls 3 [] → f_T_about_b26  h0 = some r → W p l e rm s m args below meth c H locs 0 0 (xq_MQ G s0 below r s rm.cells rm.slots) (F0 m 26 ls []) := by
  have hx := hc.x
  have hb := hc.b
  obtain ⟨hm1, hm2, hm3, hm4⟩ := id hrm
  intro  h0 H locs ls hR hLo hl heq
  unfold f_T_about_b26 at heq
  refine lv_iconst (v := (-1)) hx hb d_T_about_26 (by decide) ?_
  exact x_iret hc hR hLo ⟨by omega, by omega⟩ heq d_T_about_27
set_option maxRecDepth 100000 in
set_option maxHeartbeats 4000000 in
theorem k_T_about_b47 {p : Program} {l : Launch} {e : Env} {s : State} {m : MethodId} {args : Array Value} {below : List Frame} {meth : Method} {c : Code} {s0 : State} {A0 : Array Value} {G : Gx_t} {r : Outcome × Hs_t} {rm : Room} (hc : Cx_t p s m meth c s0 A0 l G y_T_about b_T_about 3 (some .int) []) (hrm : rm_Ok 0 0 81 1629 rm) : ∀ (sv0 : Int32) (h0 : Hs_t) (H : Heap) (locs : List Loc) (ls : Array Slot), Rp_h G s0.heap h0 H → Lo_k s0 locs → lv_has ls 3 [] → f_T_about_b47 sv0 h0 = some r → W p l e rm s m args below meth c H locs 0 0 (xq_MQ G s0 below r s rm.cells rm.slots) (F0 m 47 ls [.int sv0]) := by
  have hx := hc.x
  have hb := hc.b
  obtain ⟨hm1, hm2, hm3, hm4⟩ := id hrm
  intro sv0 h0 H locs ls hR hLo hl heq
  unfold f_T_about_b47 at heq
  exact x_iret hc hR hLo ⟨by omega, by omega⟩ heq d_T_about_47
set_option maxRecDepth 100000 in
set_option maxHeartbeats 4000000 in
theorem c_T_about {l : Launch} {s0 : State} {A0 : Array Value} {G : Gx_t} (hG : G_0 l s0 A0 G) (rm : Room) (hrm : rm_Ok 0 0 81 1629 rm) (t0 : Nat) (x1 : Int32) (h0 : Hs_t) (r : Outcome × Hs_t) (heq : f_T_about t0 x1 h0 = some r) : M_X G s0 l y_T_about (.code y_T_about b_T_about 3 (some .int)) rm [.ref t0, .int x1] h0 r := by
  refine M_X.of (by decide) hG (fun p e s m below meth c H hc hR => ?_)
  have hx := hc.x
  have hb := hc.b
  obtain ⟨hm1, hm2, hm3, hm4⟩ := id hrm
  have hLo : Lo_k s0 [] := fun _ hq => absurd hq List.not_mem_nil
  have hl := lv_entry ([.ref t0, .int x1]) (n := 3) (Nat.le_of_ble_eq_true rfl)
  rw [lg_entry_eq]
  generalize (lg_sl ([.ref t0, .int x1]) ++ List.replicate (3 - (lg_sl ([.ref t0, .int x1])).length) Slot.unset).toArray = ls at hl ⊢
  have hl : lv_has ls 3 [(0, .ref t0), (1, .int x1)] := hl
  generalize hle : ([] : List Loc) = locs at hLo ⊢
  unfold f_T_about at heq
  refine lv_iload_n hx hb d_T_about_0 rfl (lv_at hl 1 rfl) ?_
  refine lv_iconst (v := (-1)) hx hb d_T_about_1 (by decide) ?_
  refine lv_icmp_ne (tgt := 13) hx hb d_T_about_2 rfl (fun hq => ?_) (fun hq => ?_)
  · rw [if_neg hq] at heq
    refine lv_iload_n hx hb d_T_about_13 rfl (lv_at hl 1 rfl) ?_
    refine lv_if_lt (tgt := 26) hx hb d_T_about_14 rfl (fun hq => ?_) (fun hq => ?_)
    · rw [if_pos hq] at heq
      refine W.widen (k := 0) (n := 0) (by omega) (by omega) ?_
      exact k_T_about_b26 hc hrm h0 H locs ls hR hLo (lv_sub hl [] rfl) heq
    · rw [if_neg hq] at heq
      refine lv_iload_n hx hb d_T_about_17 rfl (lv_at hl 1 rfl) ?_
      refine lv_aload_n hx hb d_T_about_18 rfl (lv_at hl 0 rfl) ?_
      refine x_gA hc hR fl_T_18 heq d_T_about_19 (fun v1 heq => ?_)
      refine x_len hc hR heq d_T_about_22 (fun v2 heq => ?_)
      refine lv_icmp_lt (tgt := 28) hx hb d_T_about_23 rfl (fun hq => ?_) (fun hq => ?_)
      · rw [if_pos hq] at heq
        refine lv_aload_n hx hb d_T_about_28 rfl (lv_at hl 0 rfl) ?_
        refine x_gA hc hR fl_T_18 heq d_T_about_29 (fun v3 heq => ?_)
        refine lv_iload_n hx hb d_T_about_32 rfl (lv_at hl 1 rfl) ?_
        refine x_aR hc hR heq d_T_about_33 (fun heq => ?_) (fun v4 heq => ?_)
        · refine lv_astore_nN (lv' := [(2, .null), (0, .ref t0), (1, .int x1)]) hx hb d_T_about_34 rfl hl (by decide) rfl (fun ls hl => ?_)
          refine lv_aload_nN hx hb d_T_about_35 rfl (lv_at hl 0 rfl) ?_
          refine lv_ifnonnullN hx hb d_T_about_36 ?_
          refine lv_iconst (v := (-1)) hx hb d_T_about_39 (by decide) ?_
          refine lv_goto (tgt := 47) hx hb d_T_about_40 rfl ?_
          refine W.widen (k := 0) (n := 0) (by omega) (by omega) ?_
          exact k_T_about_b47 hc hrm (-1) h0 H locs ls hR hLo (lv_sub hl [] rfl) heq
        · refine lv_astore_n (lv' := [(2, .ref v4), (0, .ref t0), (1, .int x1)]) hx hb d_T_about_34 rfl hl (by decide) rfl (fun ls hl => ?_)
          refine lv_aload_n hx hb d_T_about_35 rfl (lv_at hl 0 rfl) ?_
          refine lv_ifnonnull (tgt := 43) hx hb d_T_about_36 rfl ?_
          refine lv_aload_n hx hb d_T_about_43 rfl (lv_at hl 0 rfl) ?_
          refine x_bI (mc := 0) (ms := 0) (st := []) hc hLo heq ⟨by omega, by omega⟩ (fun r9 h9 => x_runW hc (vk_state hc.g _ _ _ h9) hR wd_166 wd_168 (Or.inl wd_167) (by decide) hl.1 xl_state rfl (Nat.le_of_ble_eq_true rfl) d_T_about_44 ⟨by show 80 + 1 ≤ _; omega, by show 8 + (10 + 11) + (1600) ≤ _; omega⟩ ⟨by show 0 + 0 ≤ _; omega, by show 0 + 0 ≤ _; omega⟩) (fun v5 h1 H locs hR hLo heq => ?_)
          refine W.widen (k := 0) (n := 0) (by omega) (by omega) ?_
          exact k_T_about_b47 hc hrm v5 h1 H locs ls hR hLo (lv_sub hl [] rfl) heq
      · rw [if_neg hq] at heq
        refine W.widen (k := 0) (n := 0) (by omega) (by omega) ?_
        exact k_T_about_b26 hc hrm h0 H locs ls hR hLo (lv_sub hl [] rfl) heq
  · rw [if_pos hq] at heq
    refine lv_aload_n hx hb d_T_about_5 rfl (lv_at hl 0 rfl) ?_
    refine x_gA hc hR fl_T_12 heq d_T_about_6 (fun v6 heq => ?_)
    refine x_ck heq (fun tt fs ha ht heq => ?_)
    obtain rfl : tt = 2 := by simpa using ht
    refine x_bI (mc := 0) (ms := 0) (st := []) hc hLo heq ⟨by omega, by omega⟩ (fun r9 h9 => x_runV hc (c_Src_state hc.g rm_Src_state rk_Src_state _ _ _ h9) md_Src_state hR ha rfl wd_162 wd_163 wd_164 hl.1 ml_Src_state rfl (Nat.le_of_ble_eq_true rfl) d_T_about_9 ⟨by show 0 + 1 ≤ _; omega, by show 8 + (1 + 11) + (0) ≤ _; omega⟩ ⟨by show 0 + 0 ≤ _; omega, by show 0 + 0 ≤ _; omega⟩) (fun v7 h2 H locs hR hLo heq => ?_)
    exact x_iret hc hR hLo ⟨by omega, by omega⟩ heq d_T_about_12
def rm_T_about : Room := { frames := 81, cells := 0, slots := 0, locals := 1629 }
theorem rk_T_about : rm_Ok 0 0 81 1629 rm_T_about := ⟨Nat.le_refl _, Nat.le_refl _, Nat.le_refl _, Nat.le_refl _⟩
def f_T_rowOf_b15 (sv0 : Nat) (h0 : Hs_t) : Rs_t := re_A sv0 h0
def f_T_rowOf (t0 : Nat) (x1 : Int32) (h0 : Hs_t) : Rs_t := if x1 = 0 then ((fd_A [0] 3 h0 t0).bind fun v1 => f_T_rowOf_b15 v1 h0) else ((fd_A [0] 4 h0 t0).bind fun v2 => f_T_rowOf_b15 v2 h0)
set_option maxRecDepth 100000 in
set_option maxHeartbeats 4000000 in
theorem k_T_rowOf_b15 {p : Program} {l : Launch} {e : Env} {s : State} {m : MethodId} {args : Array Value} {below : List Frame} {meth : Method} {c : Code} {s0 : State} {A0 : Array Value} {G : Gx_t} {r : Outcome × Hs_t} {rm : Room} (hc : Cx_t p s m meth c s0 A0 l G y_T_rowOf b_T_rowOf 2 (some (.object "StreamTower$Row")) []) (hrm : rm_Ok 0 0 0 0 rm) : ∀ (sv0 : Nat) (h0 : Hs_t) (H : Heap) (locs : List Loc) (ls : Array Slot), Rp_h G s0.heap h0 H → Lo_k s0 locs → lv_has ls 2 [] → f_T_rowOf_b15 sv0 h0 = some r → W p l e rm s m args below meth c H locs 0 0 (xq_MQ G s0 below r s rm.cells rm.slots) (F0 m 15 ls [.ref sv0]) := by
  have hx := hc.x
  have hb := hc.b
  obtain ⟨hm1, hm2, hm3, hm4⟩ := id hrm
  intro sv0 h0 H locs ls hR hLo hl heq
  unfold f_T_rowOf_b15 at heq
  exact x_aret hc hR hLo ⟨by omega, by omega⟩ heq d_T_rowOf_15
set_option maxRecDepth 100000 in
set_option maxHeartbeats 4000000 in
theorem c_T_rowOf {l : Launch} {s0 : State} {A0 : Array Value} {G : Gx_t} (hG : G_0 l s0 A0 G) (rm : Room) (hrm : rm_Ok 0 0 0 0 rm) (t0 : Nat) (x1 : Int32) (h0 : Hs_t) (r : Outcome × Hs_t) (heq : f_T_rowOf t0 x1 h0 = some r) : M_X G s0 l y_T_rowOf (.code y_T_rowOf b_T_rowOf 2 (some (.object "StreamTower$Row"))) rm [.ref t0, .int x1] h0 r := by
  refine M_X.of (by decide) hG (fun p e s m below meth c H hc hR => ?_)
  have hx := hc.x
  have hb := hc.b
  obtain ⟨hm1, hm2, hm3, hm4⟩ := id hrm
  have hLo : Lo_k s0 [] := fun _ hq => absurd hq List.not_mem_nil
  have hl := lv_entry ([.ref t0, .int x1]) (n := 2) (Nat.le_of_ble_eq_true rfl)
  rw [lg_entry_eq]
  generalize (lg_sl ([.ref t0, .int x1]) ++ List.replicate (2 - (lg_sl ([.ref t0, .int x1])).length) Slot.unset).toArray = ls at hl ⊢
  have hl : lv_has ls 2 [(0, .ref t0), (1, .int x1)] := hl
  generalize hle : ([] : List Loc) = locs at hLo ⊢
  unfold f_T_rowOf at heq
  refine lv_iload_n hx hb d_T_rowOf_0 rfl (lv_at hl 1 rfl) ?_
  refine lv_if_eq (tgt := 11) hx hb d_T_rowOf_1 rfl (fun hq => ?_) (fun hq => ?_)
  · rw [if_pos hq] at heq
    refine lv_aload_n hx hb d_T_rowOf_11 rfl (lv_at hl 0 rfl) ?_
    refine x_gA hc hR fl_T_31 heq d_T_rowOf_12 (fun v1 heq => ?_)
    refine W.widen (k := 0) (n := 0) (by omega) (by omega) ?_
    exact k_T_rowOf_b15 hc hrm v1 h0 H locs ls hR hLo (lv_sub hl [] rfl) heq
  · rw [if_neg hq] at heq
    refine lv_aload_n hx hb d_T_rowOf_4 rfl (lv_at hl 0 rfl) ?_
    refine x_gA hc hR fl_T_35 heq d_T_rowOf_5 (fun v2 heq => ?_)
    refine lv_goto (tgt := 15) hx hb d_T_rowOf_8 rfl ?_
    refine W.widen (k := 0) (n := 0) (by omega) (by omega) ?_
    exact k_T_rowOf_b15 hc hrm v2 h0 H locs ls hR hLo (lv_sub hl [] rfl) heq
def rm_T_rowOf : Room := { frames := 0, cells := 0, slots := 0, locals := 0 }
theorem rk_T_rowOf : rm_Ok 0 0 0 0 rm_T_rowOf := ⟨Nat.le_refl _, Nat.le_refl _, Nat.le_refl _, Nat.le_refl _⟩
def f_T_size (t0 : Nat) (x1 : Int32) (h0 : Hs_t) : Rs_t := (ck_T [0] h0 t0).bind fun _ => bd_A (f_T_rowOf t0 x1 h0) (fun v1 h1 => (fd_I [1] 1 h1 v1).bind fun v2 => re_I v2 h1)
set_option maxRecDepth 100000 in
set_option maxHeartbeats 4000000 in
theorem c_T_size {l : Launch} {s0 : State} {A0 : Array Value} {G : Gx_t} (hG : G_0 l s0 A0 G) (rm : Room) (hrm : rm_Ok 0 0 1 21 rm) (t0 : Nat) (x1 : Int32) (h0 : Hs_t) (r : Outcome × Hs_t) (heq : f_T_size t0 x1 h0 = some r) : M_X G s0 l y_T_size (.code y_T_size b_T_size 2 (some .int)) rm [.ref t0, .int x1] h0 r := by
  refine M_X.of (by decide) hG (fun p e s m below meth c H hc hR => ?_)
  have hx := hc.x
  have hb := hc.b
  obtain ⟨hm1, hm2, hm3, hm4⟩ := id hrm
  have hLo : Lo_k s0 [] := fun _ hq => absurd hq List.not_mem_nil
  have hl := lv_entry ([.ref t0, .int x1]) (n := 2) (Nat.le_of_ble_eq_true rfl)
  rw [lg_entry_eq]
  generalize (lg_sl ([.ref t0, .int x1]) ++ List.replicate (2 - (lg_sl ([.ref t0, .int x1])).length) Slot.unset).toArray = ls at hl ⊢
  have hl : lv_has ls 2 [(0, .ref t0), (1, .int x1)] := hl
  generalize hle : ([] : List Loc) = locs at hLo ⊢
  unfold f_T_size at heq
  refine lv_aload_n hx hb d_T_size_0 rfl (lv_at hl 0 rfl) ?_
  refine lv_iload_n hx hb d_T_size_1 rfl (lv_at hl 1 rfl) ?_
  refine x_ck heq (fun tt fs ha ht heq => ?_)
  obtain rfl : tt = 0 := by simpa using ht
  refine x_bA (mc := 0) (ms := 0) (st := []) hc hLo heq ⟨by omega, by omega⟩ (fun r9 h9 => x_runV hc (c_T_rowOf hc.g rm_T_rowOf rk_T_rowOf _ _ _ _ h9) md_T_rowOf hR ha rfl wd_189 wd_191 sp_0 hl.1 ml_T_rowOf rfl (Nat.le_of_ble_eq_true rfl) d_T_size_2 ⟨by show 0 + 1 ≤ _; omega, by show 8 + (2 + 11) + (0) ≤ _; omega⟩ ⟨by show 0 + 0 ≤ _; omega, by show 0 + 0 ≤ _; omega⟩) (fun v1 h1 H locs hR hLo heq => ?_)
  refine x_gI hc hR fl_T_111 heq d_T_size_5 (fun v2 heq => ?_)
  exact x_iret hc hR hLo ⟨by omega, by omega⟩ heq d_T_size_8
def rm_T_size : Room := { frames := 1, cells := 0, slots := 0, locals := 21 }
theorem rk_T_size : rm_Ok 0 0 1 21 rm_T_size := ⟨Nat.le_refl _, Nat.le_refl _, Nat.le_refl _, Nat.le_refl _⟩
def f_T_at (t0 : Nat) (x1 : Int32) (x2 : Int32) (h0 : Hs_t) : Rs_t := (ck_T [0] h0 t0).bind fun _ => bd_A (f_T_rowOf t0 x2 h0) (fun v1 h1 => (ck_T [1] h1 v1).bind fun _ => bd_I (f_Row_get v1 x1 h1) (fun v2 h2 => re_I v2 h2))
set_option maxRecDepth 100000 in
set_option maxHeartbeats 4000000 in
theorem c_T_at {l : Launch} {s0 : State} {A0 : Array Value} {G : Gx_t} (hG : G_0 l s0 A0 G) (rm : Room) (hrm : rm_Ok 0 0 1 21 rm) (t0 : Nat) (x1 : Int32) (x2 : Int32) (h0 : Hs_t) (r : Outcome × Hs_t) (heq : f_T_at t0 x1 x2 h0 = some r) : M_X G s0 l y_T_at (.code y_T_at b_T_at 3 (some .int)) rm [.ref t0, .int x1, .int x2] h0 r := by
  refine M_X.of (by decide) hG (fun p e s m below meth c H hc hR => ?_)
  have hx := hc.x
  have hb := hc.b
  obtain ⟨hm1, hm2, hm3, hm4⟩ := id hrm
  have hLo : Lo_k s0 [] := fun _ hq => absurd hq List.not_mem_nil
  have hl := lv_entry ([.ref t0, .int x1, .int x2]) (n := 3) (Nat.le_of_ble_eq_true rfl)
  rw [lg_entry_eq]
  generalize (lg_sl ([.ref t0, .int x1, .int x2]) ++ List.replicate (3 - (lg_sl ([.ref t0, .int x1, .int x2])).length) Slot.unset).toArray = ls at hl ⊢
  have hl : lv_has ls 3 [(0, .ref t0), (1, .int x1), (2, .int x2)] := hl
  generalize hle : ([] : List Loc) = locs at hLo ⊢
  unfold f_T_at at heq
  refine lv_aload_n hx hb d_T_at_0 rfl (lv_at hl 0 rfl) ?_
  refine lv_iload_n hx hb d_T_at_1 rfl (lv_at hl 2 rfl) ?_
  refine x_ck heq (fun tt fs ha ht heq => ?_)
  obtain rfl : tt = 0 := by simpa using ht
  refine x_bA (mc := 0) (ms := 0) (st := []) hc hLo heq ⟨by omega, by omega⟩ (fun r9 h9 => x_runV hc (c_T_rowOf hc.g rm_T_rowOf rk_T_rowOf _ _ _ _ h9) md_T_rowOf hR ha rfl wd_189 wd_191 sp_0 hl.1 ml_T_rowOf rfl (Nat.le_of_ble_eq_true rfl) d_T_at_2 ⟨by show 0 + 1 ≤ _; omega, by show 8 + (2 + 11) + (0) ≤ _; omega⟩ ⟨by show 0 + 0 ≤ _; omega, by show 0 + 0 ≤ _; omega⟩) (fun v1 h1 H locs hR hLo heq => ?_)
  refine lv_iload_n hx hb d_T_at_5 rfl (lv_at hl 1 rfl) ?_
  refine x_ck heq (fun tt fs ha ht heq => ?_)
  obtain rfl : tt = 1 := by simpa using ht
  refine x_bI (mc := 0) (ms := 0) (st := []) hc hLo heq ⟨by omega, by omega⟩ (fun r9 h9 => x_runV hc (c_Row_get hc.g rm_Row_get rk_Row_get _ _ _ _ h9) md_Row_get hR ha rfl wd_197 wd_198 wd_199 hl.1 ml_Row_get rfl (Nat.le_of_ble_eq_true rfl) d_T_at_6 ⟨by show 0 + 1 ≤ _; omega, by show 8 + (2 + 11) + (0) ≤ _; omega⟩ ⟨by show 0 + 0 ≤ _; omega, by show 0 + 0 ≤ _; omega⟩) (fun v2 h2 H locs hR hLo heq => ?_)
  exact x_iret hc hR hLo ⟨by omega, by omega⟩ heq d_T_at_9
def rm_T_at : Room := { frames := 1, cells := 0, slots := 0, locals := 21 }
theorem rk_T_at : rm_Ok 0 0 1 21 rm_T_at := ⟨Nat.le_refl _, Nat.le_refl _, Nat.le_refl _, Nat.le_refl _⟩
