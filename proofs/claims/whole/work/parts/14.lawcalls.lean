theorem d_L_feed_0 : decode b_L_feed 0 = .ok (.aload_n 3, 1) := by decide +kernel
theorem d_L_feed_1 : decode b_L_feed 1 = .ok (.iconst 0, 1) := by decide +kernel
theorem d_L_feed_2 : decode b_L_feed 2 = .ok (.aload_n 0, 1) := by decide +kernel
theorem d_L_feed_3 : decode b_L_feed 3 = .ok (.iload_n 1, 1) := by decide +kernel
theorem d_L_feed_4 : decode b_L_feed 4 = .ok (.iload_n 2, 1) := by decide +kernel
theorem d_L_feed_5 : decode b_L_feed 5 = .ok (.invokevirtual 7, 3) := by decide +kernel
theorem d_L_feed_8 : decode b_L_feed 8 = .ok (.i2l, 1) := by decide +kernel
theorem d_L_feed_9 : decode b_L_feed 9 = .ok (.lastore, 1) := by decide +kernel
theorem d_L_feed_10 : decode b_L_feed 10 = .ok (.goto 11, 3) := by decide +kernel
theorem d_L_feed_13 : decode b_L_feed 13 = .ok (.astore 4, 2) := by decide +kernel
theorem d_L_feed_15 : decode b_L_feed 15 = .ok (.iconst 1, 1) := by decide +kernel
theorem d_L_feed_16 : decode b_L_feed 16 = .ok (.ireturn, 1) := by decide +kernel
theorem d_L_feed_17 : decode b_L_feed 17 = .ok (.astore 4, 2) := by decide +kernel
theorem d_L_feed_19 : decode b_L_feed 19 = .ok (.iconst 2, 1) := by decide +kernel
theorem d_L_feed_20 : decode b_L_feed 20 = .ok (.ireturn, 1) := by decide +kernel
theorem d_L_feed_21 : decode b_L_feed 21 = .ok (.iconst 0, 1) := by decide +kernel
theorem d_L_feed_22 : decode b_L_feed 22 = .ok (.ireturn, 1) := by decide +kernel
theorem d_L_push_0 : decode b_L_push 0 = .ok (.aload_n 3, 1) := by decide +kernel
theorem d_L_push_1 : decode b_L_push 1 = .ok (.iconst 0, 1) := by decide +kernel
theorem d_L_push_2 : decode b_L_push 2 = .ok (.aload_n 0, 1) := by decide +kernel
theorem d_L_push_3 : decode b_L_push 3 = .ok (.iload_n 1, 1) := by decide +kernel
theorem d_L_push_4 : decode b_L_push 4 = .ok (.iload_n 2, 1) := by decide +kernel
theorem d_L_push_5 : decode b_L_push 5 = .ok (.invokevirtual 17, 3) := by decide +kernel
theorem d_L_push_8 : decode b_L_push 8 = .ok (.i2l, 1) := by decide +kernel
theorem d_L_push_9 : decode b_L_push 9 = .ok (.lastore, 1) := by decide +kernel
theorem d_L_push_10 : decode b_L_push 10 = .ok (.goto 11, 3) := by decide +kernel
theorem d_L_push_13 : decode b_L_push 13 = .ok (.astore 4, 2) := by decide +kernel
theorem d_L_push_15 : decode b_L_push 15 = .ok (.iconst 1, 1) := by decide +kernel
theorem d_L_push_16 : decode b_L_push 16 = .ok (.ireturn, 1) := by decide +kernel
theorem d_L_push_17 : decode b_L_push 17 = .ok (.astore 4, 2) := by decide +kernel
theorem d_L_push_19 : decode b_L_push 19 = .ok (.iconst 2, 1) := by decide +kernel
theorem d_L_push_20 : decode b_L_push 20 = .ok (.ireturn, 1) := by decide +kernel
theorem d_L_push_21 : decode b_L_push 21 = .ok (.iconst 0, 1) := by decide +kernel
theorem d_L_push_22 : decode b_L_push 22 = .ok (.ireturn, 1) := by decide +kernel
theorem d_L_read_0 : decode b_L_read 0 = .ok (.aload_n 1, 1) := by decide +kernel
theorem d_L_read_1 : decode b_L_read 1 = .ok (.iconst 0, 1) := by decide +kernel
theorem d_L_read_2 : decode b_L_read 2 = .ok (.aload_n 0, 1) := by decide +kernel
theorem d_L_read_3 : decode b_L_read 3 = .ok (.invokevirtual 20, 3) := by decide +kernel
theorem d_L_read_6 : decode b_L_read 6 = .ok (.i2l, 1) := by decide +kernel
theorem d_L_read_7 : decode b_L_read 7 = .ok (.lastore, 1) := by decide +kernel
theorem d_L_read_8 : decode b_L_read 8 = .ok (.goto 6, 3) := by decide +kernel
theorem d_L_read_11 : decode b_L_read 11 = .ok (.astore_n 2, 1) := by decide +kernel
theorem d_L_read_12 : decode b_L_read 12 = .ok (.iconst 1, 1) := by decide +kernel
theorem d_L_read_13 : decode b_L_read 13 = .ok (.ireturn, 1) := by decide +kernel
theorem d_L_read_14 : decode b_L_read 14 = .ok (.iconst 0, 1) := by decide +kernel
theorem d_L_read_15 : decode b_L_read 15 = .ok (.ireturn, 1) := by decide +kernel
theorem d_L_some_0 : decode b_L_some 0 = .ok (.aload_n 2, 1) := by decide +kernel
theorem d_L_some_1 : decode b_L_some 1 = .ok (.iconst 0, 1) := by decide +kernel
theorem d_L_some_2 : decode b_L_some 2 = .ok (.aload_n 0, 1) := by decide +kernel
theorem d_L_some_3 : decode b_L_some 3 = .ok (.iload_n 1, 1) := by decide +kernel
theorem d_L_some_4 : decode b_L_some 4 = .ok (.invokevirtual 24, 3) := by decide +kernel
theorem d_L_some_7 : decode b_L_some 7 = .ok (.i2l, 1) := by decide +kernel
theorem d_L_some_8 : decode b_L_some 8 = .ok (.lastore, 1) := by decide +kernel
theorem d_L_some_9 : decode b_L_some 9 = .ok (.goto 9, 3) := by decide +kernel
theorem d_L_some_12 : decode b_L_some 12 = .ok (.astore_n 3, 1) := by decide +kernel
theorem d_L_some_13 : decode b_L_some 13 = .ok (.iconst 1, 1) := by decide +kernel
theorem d_L_some_14 : decode b_L_some 14 = .ok (.ireturn, 1) := by decide +kernel
theorem d_L_some_15 : decode b_L_some 15 = .ok (.astore_n 3, 1) := by decide +kernel
theorem d_L_some_16 : decode b_L_some 16 = .ok (.iconst 2, 1) := by decide +kernel
theorem d_L_some_17 : decode b_L_some 17 = .ok (.ireturn, 1) := by decide +kernel
theorem d_L_some_18 : decode b_L_some 18 = .ok (.iconst 0, 1) := by decide +kernel
theorem d_L_some_19 : decode b_L_some 19 = .ok (.ireturn, 1) := by decide +kernel
theorem d_L_full_0 : decode b_L_full 0 = .ok (.aload_n 0, 1) := by decide +kernel
theorem d_L_full_1 : decode b_L_full 1 = .ok (.iload_n 1, 1) := by decide +kernel
theorem d_L_full_2 : decode b_L_full 2 = .ok (.invokevirtual 28, 3) := by decide +kernel
theorem d_L_full_5 : decode b_L_full 5 = .ok (.goto 12, 3) := by decide +kernel
theorem d_L_full_8 : decode b_L_full 8 = .ok (.astore_n 2, 1) := by decide +kernel
theorem d_L_full_9 : decode b_L_full 9 = .ok (.iconst 1, 1) := by decide +kernel
theorem d_L_full_10 : decode b_L_full 10 = .ok (.ireturn, 1) := by decide +kernel
theorem d_L_full_11 : decode b_L_full 11 = .ok (.astore_n 2, 1) := by decide +kernel
theorem d_L_full_12 : decode b_L_full 12 = .ok (.iconst 2, 1) := by decide +kernel
theorem d_L_full_13 : decode b_L_full 13 = .ok (.ireturn, 1) := by decide +kernel
theorem d_L_full_14 : decode b_L_full 14 = .ok (.astore_n 2, 1) := by decide +kernel
theorem d_L_full_15 : decode b_L_full 15 = .ok (.iconst 3, 1) := by decide +kernel
theorem d_L_full_16 : decode b_L_full 16 = .ok (.ireturn, 1) := by decide +kernel
theorem d_L_full_17 : decode b_L_full 17 = .ok (.iconst 0, 1) := by decide +kernel
theorem d_L_full_18 : decode b_L_full 18 = .ok (.ireturn, 1) := by decide +kernel
theorem d_L_skip_0 : decode b_L_skip 0 = .ok (.aload_n 2, 1) := by decide +kernel
theorem d_L_skip_1 : decode b_L_skip 1 = .ok (.iconst 0, 1) := by decide +kernel
theorem d_L_skip_2 : decode b_L_skip 2 = .ok (.aload_n 0, 1) := by decide +kernel
theorem d_L_skip_3 : decode b_L_skip 3 = .ok (.iload_n 1, 1) := by decide +kernel
theorem d_L_skip_4 : decode b_L_skip 4 = .ok (.invokevirtual 34, 3) := by decide +kernel
theorem d_L_skip_7 : decode b_L_skip 7 = .ok (.i2l, 1) := by decide +kernel
theorem d_L_skip_8 : decode b_L_skip 8 = .ok (.lastore, 1) := by decide +kernel
theorem d_L_skip_9 : decode b_L_skip 9 = .ok (.goto 9, 3) := by decide +kernel
theorem d_L_skip_12 : decode b_L_skip 12 = .ok (.astore_n 3, 1) := by decide +kernel
theorem d_L_skip_13 : decode b_L_skip 13 = .ok (.iconst 1, 1) := by decide +kernel
theorem d_L_skip_14 : decode b_L_skip 14 = .ok (.ireturn, 1) := by decide +kernel
theorem d_L_skip_15 : decode b_L_skip 15 = .ok (.astore_n 3, 1) := by decide +kernel
theorem d_L_skip_16 : decode b_L_skip 16 = .ok (.iconst 2, 1) := by decide +kernel
theorem d_L_skip_17 : decode b_L_skip 17 = .ok (.ireturn, 1) := by decide +kernel
theorem d_L_skip_18 : decode b_L_skip 18 = .ok (.iconst 0, 1) := by decide +kernel
theorem d_L_skip_19 : decode b_L_skip 19 = .ok (.ireturn, 1) := by decide +kernel
theorem d_L_number_0 : decode b_L_number 0 = .ok (.aload_n 2, 1) := by decide +kernel
theorem d_L_number_1 : decode b_L_number 1 = .ok (.iconst 0, 1) := by decide +kernel
theorem d_L_number_2 : decode b_L_number 2 = .ok (.aload_n 0, 1) := by decide +kernel
theorem d_L_number_3 : decode b_L_number 3 = .ok (.iload_n 1, 1) := by decide +kernel
theorem d_L_number_4 : decode b_L_number 4 = .ok (.invokevirtual 37, 3) := by decide +kernel
theorem d_L_number_7 : decode b_L_number 7 = .ok (.lastore, 1) := by decide +kernel
theorem d_L_number_8 : decode b_L_number 8 = .ok (.goto 12, 3) := by decide +kernel
theorem d_L_number_11 : decode b_L_number 11 = .ok (.astore_n 3, 1) := by decide +kernel
theorem d_L_number_12 : decode b_L_number 12 = .ok (.iconst 1, 1) := by decide +kernel
theorem d_L_number_13 : decode b_L_number 13 = .ok (.ireturn, 1) := by decide +kernel
theorem d_L_number_14 : decode b_L_number 14 = .ok (.astore_n 3, 1) := by decide +kernel
theorem d_L_number_15 : decode b_L_number 15 = .ok (.iconst 2, 1) := by decide +kernel
theorem d_L_number_16 : decode b_L_number 16 = .ok (.ireturn, 1) := by decide +kernel
theorem d_L_number_17 : decode b_L_number 17 = .ok (.astore_n 3, 1) := by decide +kernel
theorem d_L_number_18 : decode b_L_number 18 = .ok (.iconst 3, 1) := by decide +kernel
theorem d_L_number_19 : decode b_L_number 19 = .ok (.ireturn, 1) := by decide +kernel
theorem d_L_number_20 : decode b_L_number 20 = .ok (.iconst 0, 1) := by decide +kernel
theorem d_L_number_21 : decode b_L_number 21 = .ok (.ireturn, 1) := by decide +kernel
theorem d_L_text_0 : decode b_L_text 0 = .ok (.aload_n 1, 1) := by decide +kernel
theorem d_L_text_1 : decode b_L_text 1 = .ok (.iconst 0, 1) := by decide +kernel
theorem d_L_text_2 : decode b_L_text 2 = .ok (.aload_n 0, 1) := by decide +kernel
theorem d_L_text_3 : decode b_L_text 3 = .ok (.invokevirtual 41, 3) := by decide +kernel
theorem d_L_text_6 : decode b_L_text 6 = .ok (.i2l, 1) := by decide +kernel
theorem d_L_text_7 : decode b_L_text 7 = .ok (.lastore, 1) := by decide +kernel
theorem d_L_text_8 : decode b_L_text 8 = .ok (.goto 12, 3) := by decide +kernel
theorem d_L_text_11 : decode b_L_text 11 = .ok (.astore_n 2, 1) := by decide +kernel
theorem d_L_text_12 : decode b_L_text 12 = .ok (.iconst 1, 1) := by decide +kernel
theorem d_L_text_13 : decode b_L_text 13 = .ok (.ireturn, 1) := by decide +kernel
theorem d_L_text_14 : decode b_L_text 14 = .ok (.astore_n 2, 1) := by decide +kernel
theorem d_L_text_15 : decode b_L_text 15 = .ok (.iconst 2, 1) := by decide +kernel
theorem d_L_text_16 : decode b_L_text 16 = .ok (.ireturn, 1) := by decide +kernel
theorem d_L_text_17 : decode b_L_text 17 = .ok (.astore_n 2, 1) := by decide +kernel
theorem d_L_text_18 : decode b_L_text 18 = .ok (.iconst 3, 1) := by decide +kernel
theorem d_L_text_19 : decode b_L_text 19 = .ok (.ireturn, 1) := by decide +kernel
theorem d_L_text_20 : decode b_L_text 20 = .ok (.iconst 0, 1) := by decide +kernel
theorem d_L_text_21 : decode b_L_text 21 = .ok (.ireturn, 1) := by decide +kernel
theorem d_L_line_0 : decode b_L_line 0 = .ok (.aload_n 1, 1) := by decide +kernel
theorem d_L_line_1 : decode b_L_line 1 = .ok (.iconst 0, 1) := by decide +kernel
theorem d_L_line_2 : decode b_L_line 2 = .ok (.aload_n 0, 1) := by decide +kernel
theorem d_L_line_3 : decode b_L_line 3 = .ok (.invokevirtual 44, 3) := by decide +kernel
theorem d_L_line_6 : decode b_L_line 6 = .ok (.i2l, 1) := by decide +kernel
theorem d_L_line_7 : decode b_L_line 7 = .ok (.lastore, 1) := by decide +kernel
theorem d_L_line_8 : decode b_L_line 8 = .ok (.goto 6, 3) := by decide +kernel
theorem d_L_line_11 : decode b_L_line 11 = .ok (.astore_n 2, 1) := by decide +kernel
theorem d_L_line_12 : decode b_L_line 12 = .ok (.iconst 1, 1) := by decide +kernel
theorem d_L_line_13 : decode b_L_line 13 = .ok (.ireturn, 1) := by decide +kernel
theorem d_L_line_14 : decode b_L_line 14 = .ok (.iconst 0, 1) := by decide +kernel
theorem d_L_line_15 : decode b_L_line 15 = .ok (.ireturn, 1) := by decide +kernel
theorem d_L_mark_0 : decode b_L_mark 0 = .ok (.aload_n 0, 1) := by decide +kernel
theorem d_L_mark_1 : decode b_L_mark 1 = .ok (.iload_n 1, 1) := by decide +kernel
theorem d_L_mark_2 : decode b_L_mark 2 = .ok (.invokevirtual 47, 3) := by decide +kernel
theorem d_L_mark_5 : decode b_L_mark 5 = .ok (.goto 12, 3) := by decide +kernel
theorem d_L_mark_8 : decode b_L_mark 8 = .ok (.astore_n 2, 1) := by decide +kernel
theorem d_L_mark_9 : decode b_L_mark 9 = .ok (.iconst 1, 1) := by decide +kernel
theorem d_L_mark_10 : decode b_L_mark 10 = .ok (.ireturn, 1) := by decide +kernel
theorem d_L_mark_11 : decode b_L_mark 11 = .ok (.astore_n 2, 1) := by decide +kernel
theorem d_L_mark_12 : decode b_L_mark 12 = .ok (.iconst 2, 1) := by decide +kernel
theorem d_L_mark_13 : decode b_L_mark 13 = .ok (.ireturn, 1) := by decide +kernel
theorem d_L_mark_14 : decode b_L_mark 14 = .ok (.astore_n 2, 1) := by decide +kernel
theorem d_L_mark_15 : decode b_L_mark 15 = .ok (.iconst 3, 1) := by decide +kernel
theorem d_L_mark_16 : decode b_L_mark 16 = .ok (.ireturn, 1) := by decide +kernel
theorem d_L_mark_17 : decode b_L_mark 17 = .ok (.iconst 0, 1) := by decide +kernel
theorem d_L_mark_18 : decode b_L_mark 18 = .ok (.ireturn, 1) := by decide +kernel
theorem d_L_reset_0 : decode b_L_reset 0 = .ok (.aload_n 0, 1) := by decide +kernel
theorem d_L_reset_1 : decode b_L_reset 1 = .ok (.invokevirtual 52, 3) := by decide +kernel
theorem d_L_reset_4 : decode b_L_reset 4 = .ok (.goto 9, 3) := by decide +kernel
theorem d_L_reset_7 : decode b_L_reset 7 = .ok (.astore_n 1, 1) := by decide +kernel
theorem d_L_reset_8 : decode b_L_reset 8 = .ok (.iconst 1, 1) := by decide +kernel
theorem d_L_reset_9 : decode b_L_reset 9 = .ok (.ireturn, 1) := by decide +kernel
theorem d_L_reset_10 : decode b_L_reset 10 = .ok (.astore_n 1, 1) := by decide +kernel
theorem d_L_reset_11 : decode b_L_reset 11 = .ok (.iconst 2, 1) := by decide +kernel
theorem d_L_reset_12 : decode b_L_reset 12 = .ok (.ireturn, 1) := by decide +kernel
theorem d_L_reset_13 : decode b_L_reset 13 = .ok (.iconst 0, 1) := by decide +kernel
theorem d_L_reset_14 : decode b_L_reset 14 = .ok (.ireturn, 1) := by decide +kernel
theorem d_L_unread_0 : decode b_L_unread 0 = .ok (.aload_n 0, 1) := by decide +kernel
theorem d_L_unread_1 : decode b_L_unread 1 = .ok (.iload_n 1, 1) := by decide +kernel
theorem d_L_unread_2 : decode b_L_unread 2 = .ok (.invokevirtual 55, 3) := by decide +kernel
theorem d_L_unread_5 : decode b_L_unread 5 = .ok (.goto 12, 3) := by decide +kernel
theorem d_L_unread_8 : decode b_L_unread 8 = .ok (.astore_n 2, 1) := by decide +kernel
theorem d_L_unread_9 : decode b_L_unread 9 = .ok (.iconst 1, 1) := by decide +kernel
theorem d_L_unread_10 : decode b_L_unread 10 = .ok (.ireturn, 1) := by decide +kernel
theorem d_L_unread_11 : decode b_L_unread 11 = .ok (.astore_n 2, 1) := by decide +kernel
theorem d_L_unread_12 : decode b_L_unread 12 = .ok (.iconst 2, 1) := by decide +kernel
theorem d_L_unread_13 : decode b_L_unread 13 = .ok (.ireturn, 1) := by decide +kernel
theorem d_L_unread_14 : decode b_L_unread 14 = .ok (.astore_n 2, 1) := by decide +kernel
theorem d_L_unread_15 : decode b_L_unread 15 = .ok (.iconst 3, 1) := by decide +kernel
theorem d_L_unread_16 : decode b_L_unread 16 = .ok (.ireturn, 1) := by decide +kernel
theorem d_L_unread_17 : decode b_L_unread 17 = .ok (.iconst 0, 1) := by decide +kernel
theorem d_L_unread_18 : decode b_L_unread 18 = .ok (.ireturn, 1) := by decide +kernel
theorem md_L_feed : md_Ok y_L_feed (.codeWith y_L_feed b_L_feed 5 (some .int) [(0, 10, 13, 13), (0, 10, 17, 15)]) 5 := ⟨wd_203, wd_0, ⟨by decide, by decide⟩, Or.inr ⟨_, _, _, rfl⟩⟩
theorem ml_L_feed : (parseMethodDescriptor y_L_feed.desc).map (fun d => d.parameters.length) = some 4 := by decide +kernel
theorem md_L_push : md_Ok y_L_push (.codeWith y_L_push b_L_push 5 (some .int) [(0, 10, 13, 13), (0, 10, 17, 15)]) 5 := ⟨wd_300, wd_0, ⟨by decide, by decide⟩, Or.inr ⟨_, _, _, rfl⟩⟩
theorem ml_L_push : (parseMethodDescriptor y_L_push.desc).map (fun d => d.parameters.length) = some 4 := by decide +kernel
theorem md_L_read : md_Ok y_L_read (.codeWith y_L_read b_L_read 3 (some .int) [(0, 8, 11, 15)]) 3 := ⟨wd_422, wd_0, ⟨by decide, by decide⟩, Or.inr ⟨_, _, _, rfl⟩⟩
theorem ml_L_read : (parseMethodDescriptor y_L_read.desc).map (fun d => d.parameters.length) = some 2 := by decide +kernel
theorem md_L_some : md_Ok y_L_some (.codeWith y_L_some b_L_some 4 (some .int) [(0, 9, 12, 13), (0, 9, 15, 15)]) 4 := ⟨wd_500, wd_0, ⟨by decide, by decide⟩, Or.inr ⟨_, _, _, rfl⟩⟩
theorem ml_L_some : (parseMethodDescriptor y_L_some.desc).map (fun d => d.parameters.length) = some 3 := by decide +kernel
theorem md_L_full : md_Ok y_L_full (.codeWith y_L_full b_L_full 3 (some .int) [(0, 5, 8, 13), (0, 5, 11, 15), (0, 5, 14, 32)]) 3 := ⟨wd_507, wd_0, ⟨by decide, by decide⟩, Or.inr ⟨_, _, _, rfl⟩⟩
theorem ml_L_full : (parseMethodDescriptor y_L_full.desc).map (fun d => d.parameters.length) = some 2 := by decide +kernel
theorem md_L_skip : md_Ok y_L_skip (.codeWith y_L_skip b_L_skip 4 (some .int) [(0, 9, 12, 13), (0, 9, 15, 15)]) 4 := ⟨wd_534, wd_0, ⟨by decide, by decide⟩, Or.inr ⟨_, _, _, rfl⟩⟩
theorem ml_L_skip : (parseMethodDescriptor y_L_skip.desc).map (fun d => d.parameters.length) = some 3 := by decide +kernel
theorem md_L_number : md_Ok y_L_number (.codeWith y_L_number b_L_number 4 (some .int) [(0, 8, 11, 13), (0, 8, 14, 15), (0, 8, 17, 32)]) 4 := ⟨wd_541, wd_0, ⟨by decide, by decide⟩, Or.inr ⟨_, _, _, rfl⟩⟩
theorem ml_L_number : (parseMethodDescriptor y_L_number.desc).map (fun d => d.parameters.length) = some 3 := by decide +kernel
theorem md_L_text : md_Ok y_L_text (.codeWith y_L_text b_L_text 3 (some .int) [(0, 8, 11, 15), (0, 8, 14, 32), (0, 8, 17, 13)]) 3 := ⟨wd_552, wd_0, ⟨by decide, by decide⟩, Or.inr ⟨_, _, _, rfl⟩⟩
theorem ml_L_text : (parseMethodDescriptor y_L_text.desc).map (fun d => d.parameters.length) = some 2 := by decide +kernel
theorem md_L_line : md_Ok y_L_line (.codeWith y_L_line b_L_line 3 (some .int) [(0, 8, 11, 15)]) 3 := ⟨wd_576, wd_0, ⟨by decide, by decide⟩, Or.inr ⟨_, _, _, rfl⟩⟩
theorem ml_L_line : (parseMethodDescriptor y_L_line.desc).map (fun d => d.parameters.length) = some 2 := by decide +kernel
theorem md_L_mark : md_Ok y_L_mark (.codeWith y_L_mark b_L_mark 3 (some .int) [(0, 5, 8, 15), (0, 5, 11, 13), (0, 5, 14, 50)]) 3 := ⟨wd_583, wd_0, ⟨by decide, by decide⟩, Or.inr ⟨_, _, _, rfl⟩⟩
theorem ml_L_mark : (parseMethodDescriptor y_L_mark.desc).map (fun d => d.parameters.length) = some 2 := by decide +kernel
theorem md_L_reset : md_Ok y_L_reset (.codeWith y_L_reset b_L_reset 2 (some .int) [(0, 4, 7, 15), (0, 4, 10, 50)]) 2 := ⟨wd_648, wd_0, ⟨by decide, by decide⟩, Or.inr ⟨_, _, _, rfl⟩⟩
theorem ml_L_reset : (parseMethodDescriptor y_L_reset.desc).map (fun d => d.parameters.length) = some 1 := by decide +kernel
theorem md_L_unread : md_Ok y_L_unread (.codeWith y_L_unread b_L_unread 3 (some .int) [(0, 5, 8, 15), (0, 5, 11, 13), (0, 5, 14, 50)]) 3 := ⟨wd_697, wd_0, ⟨by decide, by decide⟩, Or.inr ⟨_, _, _, rfl⟩⟩
theorem ml_L_unread : (parseMethodDescriptor y_L_unread.desc).map (fun d => d.parameters.length) = some 2 := by decide +kernel
def f_L_feed (x0 : Nat) (x1 : Int32) (x2 : Int32) (x3 : Nat) (h0 : Hs_t) : Rs_t := (ck_T [0] h0 x0).bind fun _ => bh_I (f_T_feed x0 x1 x2 h0) (fun v1 h1 => (as_L h1 x3 0 ((v1 : Int32).toInt64)).bind fun h2 => re_I 0 h2) (fun t9 e5 hx5 => if t9 = 9 then (re_I 1 hx5) else (if t9 = 10 then (re_I 2 hx5) else (none)))
set_option maxRecDepth 100000 in
set_option maxHeartbeats 4000000 in
theorem c_L_feed {l : Launch} {s0 : State} {A0 : Array Value} {G : Gx_t} (hG : G_0 l s0 A0 G) (rm : Room) (hrm : rm_Ok 1 6 7 104 rm) (x0 : Nat) (x1 : Int32) (x2 : Int32) (x3 : Nat) (h0 : Hs_t) (r : Outcome × Hs_t) (heq : f_L_feed x0 x1 x2 x3 h0 = some r) : M_X G s0 l y_L_feed (.codeWith y_L_feed b_L_feed 5 (some .int) [(0, 10, 13, 13), (0, 10, 17, 15)]) rm [.ref x0, .int x1, .int x2, .ref x3] h0 r := by
  refine M_X.ofH (by decide) hG (fun p e s m below meth c H hc hR => ?_)
  have hx := hc.x
  have hb := hc.b
  obtain ⟨hm1, hm2, hm3, hm4⟩ := id hrm
  have hLo : Lo_k s0 [] := fun _ hq => absurd hq List.not_mem_nil
  have hl := lv_entry ([.ref x0, .int x1, .int x2, .ref x3]) (n := 5) (Nat.le_of_ble_eq_true rfl)
  rw [lg_entry_eq]
  generalize (lg_sl ([.ref x0, .int x1, .int x2, .ref x3]) ++ List.replicate (5 - (lg_sl ([.ref x0, .int x1, .int x2, .ref x3])).length) Slot.unset).toArray = ls at hl ⊢
  have hl : lv_has ls 5 [(0, .ref x0), (1, .int x1), (2, .int x2), (3, .ref x3)] := hl
  generalize hle : ([] : List Loc) = locs at hLo ⊢
  unfold f_L_feed at heq
  refine lv_aload_n hx hb d_L_feed_0 rfl (lv_at hl 3 rfl) ?_
  refine lv_iconst (v := 0) hx hb d_L_feed_1 (by decide) ?_
  refine lv_aload_n hx hb d_L_feed_2 rfl (lv_at hl 0 rfl) ?_
  refine lv_iload_n hx hb d_L_feed_3 rfl (lv_at hl 1 rfl) ?_
  refine lv_iload_n hx hb d_L_feed_4 rfl (lv_at hl 2 rfl) ?_
  refine x_ck heq (fun tt fs ha ht heq => ?_)
  obtain rfl : tt = 0 := by simpa using ht
  refine x_hI (mc := 1) (ms := 6) (st := [.int 0, .ref x3]) hLo heq (fun r9 h9 => x_runV hc (c_T_feed hc.g rm_T_feed rk_T_feed _ _ _ _ _ h9) md_T_feed hR ha rfl wd_206 wd_207 wd_208 hl.1 ml_T_feed rfl (Nat.le_of_ble_eq_true rfl) d_L_feed_5 ⟨by show 6 + 1 ≤ _; omega, by show 8 + (4 + 11) + (81) ≤ _; omega⟩ ⟨by show 0 + 1 ≤ _; omega, by show 0 + 6 ≤ _; omega⟩) (fun v1 h1 H locs hR hLo heq => ?_) (fun t9 e5 fs hx5 H locs ha hR hLo heq => ?_)
  · refine lv_i2l (v := (v1 : Int32).toInt64) hx hb d_L_feed_8 rfl ?_
    refine x_sL hc hR hLo heq d_L_feed_9 (fun h2 H locs hR hLo heq => ?_)
    refine lv_goto (tgt := 21) hx hb d_L_feed_10 rfl ?_
    refine lv_iconst (v := 0) hx hb d_L_feed_21 (by decide) ?_
    exact x_iret hc hR hLo ⟨by omega, by omega⟩ heq d_L_feed_22
  · by_cases hz9 : t9 = 9
    · subst hz9
      rw [if_pos rfl] at heq
      refine x_hnd (pre := []) (st9 := 0) (en9 := 10) (hp := 13) (ct9 := 13) (suf := [(0, 10, 17, 15)]) hc hR ha rfl (fun z hz => by cases hz) ⟨by decide, by decide, by decide, _, wd_204, wd_212⟩ ?_
      refine lv_astore (lv' := [(4, .ref e5), (0, .ref x0), (1, .int x1), (2, .int x2), (3, .ref x3)]) hx hb d_L_feed_13 hl (by decide) rfl (fun ls hl => ?_)
      refine lv_iconst (v := 1) hx hb d_L_feed_15 (by decide) ?_
      exact x_iret hc hR hLo ⟨by omega, by omega⟩ heq d_L_feed_16
    rw [if_neg hz9] at heq
    by_cases hz10 : t9 = 10
    · subst hz10
      rw [if_pos rfl] at heq
      refine x_hnd (pre := [(0, 10, 13, 13)]) (st9 := 0) (en9 := 10) (hp := 17) (ct9 := 15) (suf := []) hc hR ha rfl (fun z hz => by rcases List.mem_cons.mp hz with rfl | hz; exact ⟨by decide, by decide, by decide, _, wd_204, by decide +kernel⟩; cases hz) ⟨by decide, by decide, by decide, _, wd_205, wd_280⟩ ?_
      refine lv_astore (lv' := [(4, .ref e5), (0, .ref x0), (1, .int x1), (2, .int x2), (3, .ref x3)]) hx hb d_L_feed_17 hl (by decide) rfl (fun ls hl => ?_)
      refine lv_iconst (v := 2) hx hb d_L_feed_19 (by decide) ?_
      exact x_iret hc hR hLo ⟨by omega, by omega⟩ heq d_L_feed_20
    rw [if_neg hz10] at heq
    cases heq
def rm_L_feed : Room := { frames := 7, cells := 1, slots := 6, locals := 104 }
theorem rk_L_feed : rm_Ok 1 6 7 104 rm_L_feed := ⟨Nat.le_refl _, Nat.le_refl _, Nat.le_refl _, Nat.le_refl _⟩
def f_L_push (x0 : Nat) (x1 : Int32) (x2 : Int32) (x3 : Nat) (h0 : Hs_t) : Rs_t := (ck_T [0] h0 x0).bind fun _ => bh_I (f_T_push x0 x1 x2 h0) (fun v1 h1 => (as_L h1 x3 0 ((v1 : Int32).toInt64)).bind fun h2 => re_I 0 h2) (fun t9 e5 hx5 => if t9 = 9 then (re_I 1 hx5) else (if t9 = 10 then (re_I 2 hx5) else (none)))
set_option maxRecDepth 100000 in
set_option maxHeartbeats 4000000 in
theorem c_L_push {l : Launch} {s0 : State} {A0 : Array Value} {G : Gx_t} (hG : G_0 l s0 A0 G) (rm : Room) (hrm : rm_Ok 2 56 7 119 rm) (x0 : Nat) (x1 : Int32) (x2 : Int32) (x3 : Nat) (h0 : Hs_t) (r : Outcome × Hs_t) (heq : f_L_push x0 x1 x2 x3 h0 = some r) : M_X G s0 l y_L_push (.codeWith y_L_push b_L_push 5 (some .int) [(0, 10, 13, 13), (0, 10, 17, 15)]) rm [.ref x0, .int x1, .int x2, .ref x3] h0 r := by
  refine M_X.ofH (by decide) hG (fun p e s m below meth c H hc hR => ?_)
  have hx := hc.x
  have hb := hc.b
  obtain ⟨hm1, hm2, hm3, hm4⟩ := id hrm
  have hLo : Lo_k s0 [] := fun _ hq => absurd hq List.not_mem_nil
  have hl := lv_entry ([.ref x0, .int x1, .int x2, .ref x3]) (n := 5) (Nat.le_of_ble_eq_true rfl)
  rw [lg_entry_eq]
  generalize (lg_sl ([.ref x0, .int x1, .int x2, .ref x3]) ++ List.replicate (5 - (lg_sl ([.ref x0, .int x1, .int x2, .ref x3])).length) Slot.unset).toArray = ls at hl ⊢
  have hl : lv_has ls 5 [(0, .ref x0), (1, .int x1), (2, .int x2), (3, .ref x3)] := hl
  generalize hle : ([] : List Loc) = locs at hLo ⊢
  unfold f_L_push at heq
  refine lv_aload_n hx hb d_L_push_0 rfl (lv_at hl 3 rfl) ?_
  refine lv_iconst (v := 0) hx hb d_L_push_1 (by decide) ?_
  refine lv_aload_n hx hb d_L_push_2 rfl (lv_at hl 0 rfl) ?_
  refine lv_iload_n hx hb d_L_push_3 rfl (lv_at hl 1 rfl) ?_
  refine lv_iload_n hx hb d_L_push_4 rfl (lv_at hl 2 rfl) ?_
  refine x_ck heq (fun tt fs ha ht heq => ?_)
  obtain rfl : tt = 0 := by simpa using ht
  refine x_hI (mc := 2) (ms := 56) (st := [.int 0, .ref x3]) hLo heq (fun r9 h9 => x_runV hc (c_T_push hc.g rm_T_push rk_T_push _ _ _ _ _ h9) md_T_push hR ha rfl wd_301 wd_302 wd_303 hl.1 ml_T_push rfl (Nat.le_of_ble_eq_true rfl) d_L_push_5 ⟨by show 6 + 1 ≤ _; omega, by show 8 + (3 + 11) + (97) ≤ _; omega⟩ ⟨by show 0 + 2 ≤ _; omega, by show 0 + 56 ≤ _; omega⟩) (fun v1 h1 H locs hR hLo heq => ?_) (fun t9 e5 fs hx5 H locs ha hR hLo heq => ?_)
  · refine lv_i2l (v := (v1 : Int32).toInt64) hx hb d_L_push_8 rfl ?_
    refine x_sL hc hR hLo heq d_L_push_9 (fun h2 H locs hR hLo heq => ?_)
    refine lv_goto (tgt := 21) hx hb d_L_push_10 rfl ?_
    refine lv_iconst (v := 0) hx hb d_L_push_21 (by decide) ?_
    exact x_iret hc hR hLo ⟨by omega, by omega⟩ heq d_L_push_22
  · by_cases hz9 : t9 = 9
    · subst hz9
      rw [if_pos rfl] at heq
      refine x_hnd (pre := []) (st9 := 0) (en9 := 10) (hp := 13) (ct9 := 13) (suf := [(0, 10, 17, 15)]) hc hR ha rfl (fun z hz => by cases hz) ⟨by decide, by decide, by decide, _, wd_204, wd_212⟩ ?_
      refine lv_astore (lv' := [(4, .ref e5), (0, .ref x0), (1, .int x1), (2, .int x2), (3, .ref x3)]) hx hb d_L_push_13 hl (by decide) rfl (fun ls hl => ?_)
      refine lv_iconst (v := 1) hx hb d_L_push_15 (by decide) ?_
      exact x_iret hc hR hLo ⟨by omega, by omega⟩ heq d_L_push_16
    rw [if_neg hz9] at heq
    by_cases hz10 : t9 = 10
    · subst hz10
      rw [if_pos rfl] at heq
      refine x_hnd (pre := [(0, 10, 13, 13)]) (st9 := 0) (en9 := 10) (hp := 17) (ct9 := 15) (suf := []) hc hR ha rfl (fun z hz => by rcases List.mem_cons.mp hz with rfl | hz; exact ⟨by decide, by decide, by decide, _, wd_204, by decide +kernel⟩; cases hz) ⟨by decide, by decide, by decide, _, wd_205, wd_280⟩ ?_
      refine lv_astore (lv' := [(4, .ref e5), (0, .ref x0), (1, .int x1), (2, .int x2), (3, .ref x3)]) hx hb d_L_push_17 hl (by decide) rfl (fun ls hl => ?_)
      refine lv_iconst (v := 2) hx hb d_L_push_19 (by decide) ?_
      exact x_iret hc hR hLo ⟨by omega, by omega⟩ heq d_L_push_20
    rw [if_neg hz10] at heq
    cases heq
def rm_L_push : Room := { frames := 7, cells := 2, slots := 56, locals := 119 }
theorem rk_L_push : rm_Ok 2 56 7 119 rm_L_push := ⟨Nat.le_refl _, Nat.le_refl _, Nat.le_refl _, Nat.le_refl _⟩
def f_L_read (x0 : Nat) (x1 : Nat) (h0 : Hs_t) : Rs_t := (ck_T [0] h0 x0).bind fun _ => bh_I (f_T_read x0 h0) (fun v1 h1 => (as_L h1 x1 0 ((v1 : Int32).toInt64)).bind fun h2 => re_I 0 h2) (fun t9 e3 hx3 => if t9 = 10 then (re_I 1 hx3) else (none))
set_option maxRecDepth 100000 in
set_option maxHeartbeats 4000000 in
theorem c_L_read {l : Launch} {s0 : State} {A0 : Array Value} {G : Gx_t} (hG : G_0 l s0 A0 G) (rm : Room) (hrm : rm_Ok 2 12 83 1672 rm) (x0 : Nat) (x1 : Nat) (h0 : Hs_t) (r : Outcome × Hs_t) (heq : f_L_read x0 x1 h0 = some r) : M_X G s0 l y_L_read (.codeWith y_L_read b_L_read 3 (some .int) [(0, 8, 11, 15)]) rm [.ref x0, .ref x1] h0 r := by
  refine M_X.ofH (by decide) hG (fun p e s m below meth c H hc hR => ?_)
  have hx := hc.x
  have hb := hc.b
  obtain ⟨hm1, hm2, hm3, hm4⟩ := id hrm
  have hLo : Lo_k s0 [] := fun _ hq => absurd hq List.not_mem_nil
  have hl := lv_entry ([.ref x0, .ref x1]) (n := 3) (Nat.le_of_ble_eq_true rfl)
  rw [lg_entry_eq]
  generalize (lg_sl ([.ref x0, .ref x1]) ++ List.replicate (3 - (lg_sl ([.ref x0, .ref x1])).length) Slot.unset).toArray = ls at hl ⊢
  have hl : lv_has ls 3 [(0, .ref x0), (1, .ref x1)] := hl
  generalize hle : ([] : List Loc) = locs at hLo ⊢
  unfold f_L_read at heq
  refine lv_aload_n hx hb d_L_read_0 rfl (lv_at hl 1 rfl) ?_
  refine lv_iconst (v := 0) hx hb d_L_read_1 (by decide) ?_
  refine lv_aload_n hx hb d_L_read_2 rfl (lv_at hl 0 rfl) ?_
  refine x_ck heq (fun tt fs ha ht heq => ?_)
  obtain rfl : tt = 0 := by simpa using ht
  refine x_hI (mc := 2) (ms := 12) (st := [.int 0, .ref x1]) hLo heq (fun r9 h9 => x_runV hc (c_T_read hc.g rm_T_read rk_T_read _ _ _ h9) md_T_read hR ha rfl wd_423 wd_424 wd_425 hl.1 ml_T_read rfl (Nat.le_of_ble_eq_true rfl) d_L_read_3 ⟨by show 82 + 1 ≤ _; omega, by show 8 + (2 + 11) + (1651) ≤ _; omega⟩ ⟨by show 0 + 2 ≤ _; omega, by show 0 + 12 ≤ _; omega⟩) (fun v1 h1 H locs hR hLo heq => ?_) (fun t9 e3 fs hx3 H locs ha hR hLo heq => ?_)
  · refine lv_i2l (v := (v1 : Int32).toInt64) hx hb d_L_read_6 rfl ?_
    refine x_sL hc hR hLo heq d_L_read_7 (fun h2 H locs hR hLo heq => ?_)
    refine lv_goto (tgt := 14) hx hb d_L_read_8 rfl ?_
    refine lv_iconst (v := 0) hx hb d_L_read_14 (by decide) ?_
    exact x_iret hc hR hLo ⟨by omega, by omega⟩ heq d_L_read_15
  · by_cases hz10 : t9 = 10
    · subst hz10
      rw [if_pos rfl] at heq
      refine x_hnd (pre := []) (st9 := 0) (en9 := 8) (hp := 11) (ct9 := 15) (suf := []) hc hR ha rfl (fun z hz => by cases hz) ⟨by decide, by decide, by decide, _, wd_205, wd_280⟩ ?_
      refine lv_astore_n (lv' := [(2, .ref e3), (0, .ref x0), (1, .ref x1)]) hx hb d_L_read_11 rfl hl (by decide) rfl (fun ls hl => ?_)
      refine lv_iconst (v := 1) hx hb d_L_read_12 (by decide) ?_
      exact x_iret hc hR hLo ⟨by omega, by omega⟩ heq d_L_read_13
    rw [if_neg hz10] at heq
    cases heq
def rm_L_read : Room := { frames := 83, cells := 2, slots := 12, locals := 1672 }
theorem rk_L_read : rm_Ok 2 12 83 1672 rm_L_read := ⟨Nat.le_refl _, Nat.le_refl _, Nat.le_refl _, Nat.le_refl _⟩
def f_L_some (x0 : Nat) (x1 : Int32) (x2 : Nat) (h0 : Hs_t) : Rs_t := (ck_T [0] h0 x0).bind fun _ => bh_I (f_T_some x0 x1 h0) (fun v1 h1 => (as_L h1 x2 0 ((v1 : Int32).toInt64)).bind fun h2 => re_I 0 h2) (fun t9 e4 hx4 => if t9 = 9 then (re_I 1 hx4) else (if t9 = 10 then (re_I 2 hx4) else (none)))
set_option maxRecDepth 100000 in
set_option maxHeartbeats 4000000 in
theorem c_L_some {l : Launch} {s0 : State} {A0 : Array Value} {G : Gx_t} (hG : G_0 l s0 A0 G) (rm : Room) (hrm : rm_Ok 2 12 83 1673 rm) (x0 : Nat) (x1 : Int32) (x2 : Nat) (h0 : Hs_t) (r : Outcome × Hs_t) (heq : f_L_some x0 x1 x2 h0 = some r) : M_X G s0 l y_L_some (.codeWith y_L_some b_L_some 4 (some .int) [(0, 9, 12, 13), (0, 9, 15, 15)]) rm [.ref x0, .int x1, .ref x2] h0 r := by
  refine M_X.ofH (by decide) hG (fun p e s m below meth c H hc hR => ?_)
  have hx := hc.x
  have hb := hc.b
  obtain ⟨hm1, hm2, hm3, hm4⟩ := id hrm
  have hLo : Lo_k s0 [] := fun _ hq => absurd hq List.not_mem_nil
  have hl := lv_entry ([.ref x0, .int x1, .ref x2]) (n := 4) (Nat.le_of_ble_eq_true rfl)
  rw [lg_entry_eq]
  generalize (lg_sl ([.ref x0, .int x1, .ref x2]) ++ List.replicate (4 - (lg_sl ([.ref x0, .int x1, .ref x2])).length) Slot.unset).toArray = ls at hl ⊢
  have hl : lv_has ls 4 [(0, .ref x0), (1, .int x1), (2, .ref x2)] := hl
  generalize hle : ([] : List Loc) = locs at hLo ⊢
  unfold f_L_some at heq
  refine lv_aload_n hx hb d_L_some_0 rfl (lv_at hl 2 rfl) ?_
  refine lv_iconst (v := 0) hx hb d_L_some_1 (by decide) ?_
  refine lv_aload_n hx hb d_L_some_2 rfl (lv_at hl 0 rfl) ?_
  refine lv_iload_n hx hb d_L_some_3 rfl (lv_at hl 1 rfl) ?_
  refine x_ck heq (fun tt fs ha ht heq => ?_)
  obtain rfl : tt = 0 := by simpa using ht
  refine x_hI (mc := 2) (ms := 12) (st := [.int 0, .ref x2]) hLo heq (fun r9 h9 => x_runV hc (c_T_some hc.g rm_T_some rk_T_some _ _ _ _ h9) md_T_some hR ha rfl wd_501 wd_502 wd_503 hl.1 ml_T_some rfl (Nat.le_of_ble_eq_true rfl) d_L_some_4 ⟨by show 82 + 1 ≤ _; omega, by show 8 + (3 + 11) + (1651) ≤ _; omega⟩ ⟨by show 0 + 2 ≤ _; omega, by show 0 + 12 ≤ _; omega⟩) (fun v1 h1 H locs hR hLo heq => ?_) (fun t9 e4 fs hx4 H locs ha hR hLo heq => ?_)
  · refine lv_i2l (v := (v1 : Int32).toInt64) hx hb d_L_some_7 rfl ?_
    refine x_sL hc hR hLo heq d_L_some_8 (fun h2 H locs hR hLo heq => ?_)
    refine lv_goto (tgt := 18) hx hb d_L_some_9 rfl ?_
    refine lv_iconst (v := 0) hx hb d_L_some_18 (by decide) ?_
    exact x_iret hc hR hLo ⟨by omega, by omega⟩ heq d_L_some_19
  · by_cases hz9 : t9 = 9
    · subst hz9
      rw [if_pos rfl] at heq
      refine x_hnd (pre := []) (st9 := 0) (en9 := 9) (hp := 12) (ct9 := 13) (suf := [(0, 9, 15, 15)]) hc hR ha rfl (fun z hz => by cases hz) ⟨by decide, by decide, by decide, _, wd_204, wd_212⟩ ?_
      refine lv_astore_n (lv' := [(3, .ref e4), (0, .ref x0), (1, .int x1), (2, .ref x2)]) hx hb d_L_some_12 rfl hl (by decide) rfl (fun ls hl => ?_)
      refine lv_iconst (v := 1) hx hb d_L_some_13 (by decide) ?_
      exact x_iret hc hR hLo ⟨by omega, by omega⟩ heq d_L_some_14
    rw [if_neg hz9] at heq
    by_cases hz10 : t9 = 10
    · subst hz10
      rw [if_pos rfl] at heq
      refine x_hnd (pre := [(0, 9, 12, 13)]) (st9 := 0) (en9 := 9) (hp := 15) (ct9 := 15) (suf := []) hc hR ha rfl (fun z hz => by rcases List.mem_cons.mp hz with rfl | hz; exact ⟨by decide, by decide, by decide, _, wd_204, by decide +kernel⟩; cases hz) ⟨by decide, by decide, by decide, _, wd_205, wd_280⟩ ?_
      refine lv_astore_n (lv' := [(3, .ref e4), (0, .ref x0), (1, .int x1), (2, .ref x2)]) hx hb d_L_some_15 rfl hl (by decide) rfl (fun ls hl => ?_)
      refine lv_iconst (v := 2) hx hb d_L_some_16 (by decide) ?_
      exact x_iret hc hR hLo ⟨by omega, by omega⟩ heq d_L_some_17
    rw [if_neg hz10] at heq
    cases heq
def rm_L_some : Room := { frames := 83, cells := 2, slots := 12, locals := 1673 }
theorem rk_L_some : rm_Ok 2 12 83 1673 rm_L_some := ⟨Nat.le_refl _, Nat.le_refl _, Nat.le_refl _, Nat.le_refl _⟩
def f_L_full (x0 : Nat) (x1 : Int32) (h0 : Hs_t) : Rs_t := (ck_T [0] h0 x0).bind fun _ => bh_V (f_T_full x0 x1 h0) (fun h1 => re_I 0 h1) (fun t9 e2 hx2 => if t9 = 9 then (re_I 1 hx2) else (if t9 = 10 then (re_I 2 hx2) else (if t9 = 11 then (re_I 3 hx2) else (none))))
set_option maxRecDepth 100000 in
set_option maxHeartbeats 4000000 in
theorem c_L_full {l : Launch} {s0 : State} {A0 : Array Value} {G : Gx_t} (hG : G_0 l s0 A0 G) (rm : Room) (hrm : rm_Ok 2 12 84 1696 rm) (x0 : Nat) (x1 : Int32) (h0 : Hs_t) (r : Outcome × Hs_t) (heq : f_L_full x0 x1 h0 = some r) : M_X G s0 l y_L_full (.codeWith y_L_full b_L_full 3 (some .int) [(0, 5, 8, 13), (0, 5, 11, 15), (0, 5, 14, 32)]) rm [.ref x0, .int x1] h0 r := by
  refine M_X.ofH (by decide) hG (fun p e s m below meth c H hc hR => ?_)
  have hx := hc.x
  have hb := hc.b
  obtain ⟨hm1, hm2, hm3, hm4⟩ := id hrm
  have hLo : Lo_k s0 [] := fun _ hq => absurd hq List.not_mem_nil
  have hl := lv_entry ([.ref x0, .int x1]) (n := 3) (Nat.le_of_ble_eq_true rfl)
  rw [lg_entry_eq]
  generalize (lg_sl ([.ref x0, .int x1]) ++ List.replicate (3 - (lg_sl ([.ref x0, .int x1])).length) Slot.unset).toArray = ls at hl ⊢
  have hl : lv_has ls 3 [(0, .ref x0), (1, .int x1)] := hl
  generalize hle : ([] : List Loc) = locs at hLo ⊢
  unfold f_L_full at heq
  refine lv_aload_n hx hb d_L_full_0 rfl (lv_at hl 0 rfl) ?_
  refine lv_iload_n hx hb d_L_full_1 rfl (lv_at hl 1 rfl) ?_
  refine x_ck heq (fun tt fs ha ht heq => ?_)
  obtain rfl : tt = 0 := by simpa using ht
  refine x_hV (mc := 2) (ms := 12) (st := []) hLo heq (fun r9 h9 => x_runV hc (c_T_full hc.g rm_T_full rk_T_full _ _ _ _ h9) md_T_full hR ha rfl wd_509 wd_510 wd_511 hl.1 ml_T_full rfl (Nat.le_of_ble_eq_true rfl) d_L_full_2 ⟨by show 83 + 1 ≤ _; omega, by show 8 + (2 + 11) + (1675) ≤ _; omega⟩ ⟨by show 0 + 2 ≤ _; omega, by show 0 + 12 ≤ _; omega⟩) (fun h1 H locs hR hLo heq => ?_) (fun t9 e2 fs hx2 H locs ha hR hLo heq => ?_)
  · refine lv_goto (tgt := 17) hx hb d_L_full_5 rfl ?_
    refine lv_iconst (v := 0) hx hb d_L_full_17 (by decide) ?_
    exact x_iret hc hR hLo ⟨by omega, by omega⟩ heq d_L_full_18
  · by_cases hz9 : t9 = 9
    · subst hz9
      rw [if_pos rfl] at heq
      refine x_hnd (pre := []) (st9 := 0) (en9 := 5) (hp := 8) (ct9 := 13) (suf := [(0, 5, 11, 15), (0, 5, 14, 32)]) hc hR ha rfl (fun z hz => by cases hz) ⟨by decide, by decide, by decide, _, wd_204, wd_212⟩ ?_
      refine lv_astore_n (lv' := [(2, .ref e2), (0, .ref x0), (1, .int x1)]) hx hb d_L_full_8 rfl hl (by decide) rfl (fun ls hl => ?_)
      refine lv_iconst (v := 1) hx hb d_L_full_9 (by decide) ?_
      exact x_iret hc hR hLo ⟨by omega, by omega⟩ heq d_L_full_10
    rw [if_neg hz9] at heq
    by_cases hz10 : t9 = 10
    · subst hz10
      rw [if_pos rfl] at heq
      refine x_hnd (pre := [(0, 5, 8, 13)]) (st9 := 0) (en9 := 5) (hp := 11) (ct9 := 15) (suf := [(0, 5, 14, 32)]) hc hR ha rfl (fun z hz => by rcases List.mem_cons.mp hz with rfl | hz; exact ⟨by decide, by decide, by decide, _, wd_204, by decide +kernel⟩; cases hz) ⟨by decide, by decide, by decide, _, wd_205, wd_280⟩ ?_
      refine lv_astore_n (lv' := [(2, .ref e2), (0, .ref x0), (1, .int x1)]) hx hb d_L_full_11 rfl hl (by decide) rfl (fun ls hl => ?_)
      refine lv_iconst (v := 2) hx hb d_L_full_12 (by decide) ?_
      exact x_iret hc hR hLo ⟨by omega, by omega⟩ heq d_L_full_13
    rw [if_neg hz10] at heq
    by_cases hz11 : t9 = 11
    · subst hz11
      rw [if_pos rfl] at heq
      refine x_hnd (pre := [(0, 5, 8, 13), (0, 5, 11, 15)]) (st9 := 0) (en9 := 5) (hp := 14) (ct9 := 32) (suf := []) hc hR ha rfl (fun z hz => by rcases List.mem_cons.mp hz with rfl | hz; exact ⟨by decide, by decide, by decide, _, wd_204, by decide +kernel⟩; rcases List.mem_cons.mp hz with rfl | hz; exact ⟨by decide, by decide, by decide, _, wd_205, by decide +kernel⟩; cases hz) ⟨by decide, by decide, by decide, _, wd_508, wd_519⟩ ?_
      refine lv_astore_n (lv' := [(2, .ref e2), (0, .ref x0), (1, .int x1)]) hx hb d_L_full_14 rfl hl (by decide) rfl (fun ls hl => ?_)
      refine lv_iconst (v := 3) hx hb d_L_full_15 (by decide) ?_
      exact x_iret hc hR hLo ⟨by omega, by omega⟩ heq d_L_full_16
    rw [if_neg hz11] at heq
    cases heq
def rm_L_full : Room := { frames := 84, cells := 2, slots := 12, locals := 1696 }
theorem rk_L_full : rm_Ok 2 12 84 1696 rm_L_full := ⟨Nat.le_refl _, Nat.le_refl _, Nat.le_refl _, Nat.le_refl _⟩
def f_L_skip (x0 : Nat) (x1 : Int32) (x2 : Nat) (h0 : Hs_t) : Rs_t := (ck_T [0] h0 x0).bind fun _ => bh_I (f_T_skip x0 x1 h0) (fun v1 h1 => (as_L h1 x2 0 ((v1 : Int32).toInt64)).bind fun h2 => re_I 0 h2) (fun t9 e4 hx4 => if t9 = 9 then (re_I 1 hx4) else (if t9 = 10 then (re_I 2 hx4) else (none)))
set_option maxRecDepth 100000 in
set_option maxHeartbeats 4000000 in
theorem c_L_skip {l : Launch} {s0 : State} {A0 : Array Value} {G : Gx_t} (hG : G_0 l s0 A0 G) (rm : Room) (hrm : rm_Ok 2 12 83 1675 rm) (x0 : Nat) (x1 : Int32) (x2 : Nat) (h0 : Hs_t) (r : Outcome × Hs_t) (heq : f_L_skip x0 x1 x2 h0 = some r) : M_X G s0 l y_L_skip (.codeWith y_L_skip b_L_skip 4 (some .int) [(0, 9, 12, 13), (0, 9, 15, 15)]) rm [.ref x0, .int x1, .ref x2] h0 r := by
  refine M_X.ofH (by decide) hG (fun p e s m below meth c H hc hR => ?_)
  have hx := hc.x
  have hb := hc.b
  obtain ⟨hm1, hm2, hm3, hm4⟩ := id hrm
  have hLo : Lo_k s0 [] := fun _ hq => absurd hq List.not_mem_nil
  have hl := lv_entry ([.ref x0, .int x1, .ref x2]) (n := 4) (Nat.le_of_ble_eq_true rfl)
  rw [lg_entry_eq]
  generalize (lg_sl ([.ref x0, .int x1, .ref x2]) ++ List.replicate (4 - (lg_sl ([.ref x0, .int x1, .ref x2])).length) Slot.unset).toArray = ls at hl ⊢
  have hl : lv_has ls 4 [(0, .ref x0), (1, .int x1), (2, .ref x2)] := hl
  generalize hle : ([] : List Loc) = locs at hLo ⊢
  unfold f_L_skip at heq
  refine lv_aload_n hx hb d_L_skip_0 rfl (lv_at hl 2 rfl) ?_
  refine lv_iconst (v := 0) hx hb d_L_skip_1 (by decide) ?_
  refine lv_aload_n hx hb d_L_skip_2 rfl (lv_at hl 0 rfl) ?_
  refine lv_iload_n hx hb d_L_skip_3 rfl (lv_at hl 1 rfl) ?_
  refine x_ck heq (fun tt fs ha ht heq => ?_)
  obtain rfl : tt = 0 := by simpa using ht
  refine x_hI (mc := 2) (ms := 12) (st := [.int 0, .ref x2]) hLo heq (fun r9 h9 => x_runV hc (c_T_skip hc.g rm_T_skip rk_T_skip _ _ _ _ h9) md_T_skip hR ha rfl wd_535 wd_536 wd_537 hl.1 ml_T_skip rfl (Nat.le_of_ble_eq_true rfl) d_L_skip_4 ⟨by show 82 + 1 ≤ _; omega, by show 8 + (5 + 11) + (1651) ≤ _; omega⟩ ⟨by show 0 + 2 ≤ _; omega, by show 0 + 12 ≤ _; omega⟩) (fun v1 h1 H locs hR hLo heq => ?_) (fun t9 e4 fs hx4 H locs ha hR hLo heq => ?_)
  · refine lv_i2l (v := (v1 : Int32).toInt64) hx hb d_L_skip_7 rfl ?_
    refine x_sL hc hR hLo heq d_L_skip_8 (fun h2 H locs hR hLo heq => ?_)
    refine lv_goto (tgt := 18) hx hb d_L_skip_9 rfl ?_
    refine lv_iconst (v := 0) hx hb d_L_skip_18 (by decide) ?_
    exact x_iret hc hR hLo ⟨by omega, by omega⟩ heq d_L_skip_19
  · by_cases hz9 : t9 = 9
    · subst hz9
      rw [if_pos rfl] at heq
      refine x_hnd (pre := []) (st9 := 0) (en9 := 9) (hp := 12) (ct9 := 13) (suf := [(0, 9, 15, 15)]) hc hR ha rfl (fun z hz => by cases hz) ⟨by decide, by decide, by decide, _, wd_204, wd_212⟩ ?_
      refine lv_astore_n (lv' := [(3, .ref e4), (0, .ref x0), (1, .int x1), (2, .ref x2)]) hx hb d_L_skip_12 rfl hl (by decide) rfl (fun ls hl => ?_)
      refine lv_iconst (v := 1) hx hb d_L_skip_13 (by decide) ?_
      exact x_iret hc hR hLo ⟨by omega, by omega⟩ heq d_L_skip_14
    rw [if_neg hz9] at heq
    by_cases hz10 : t9 = 10
    · subst hz10
      rw [if_pos rfl] at heq
      refine x_hnd (pre := [(0, 9, 12, 13)]) (st9 := 0) (en9 := 9) (hp := 15) (ct9 := 15) (suf := []) hc hR ha rfl (fun z hz => by rcases List.mem_cons.mp hz with rfl | hz; exact ⟨by decide, by decide, by decide, _, wd_204, by decide +kernel⟩; cases hz) ⟨by decide, by decide, by decide, _, wd_205, wd_280⟩ ?_
      refine lv_astore_n (lv' := [(3, .ref e4), (0, .ref x0), (1, .int x1), (2, .ref x2)]) hx hb d_L_skip_15 rfl hl (by decide) rfl (fun ls hl => ?_)
      refine lv_iconst (v := 2) hx hb d_L_skip_16 (by decide) ?_
      exact x_iret hc hR hLo ⟨by omega, by omega⟩ heq d_L_skip_17
    rw [if_neg hz10] at heq
    cases heq
def rm_L_skip : Room := { frames := 83, cells := 2, slots := 12, locals := 1675 }
theorem rk_L_skip : rm_Ok 2 12 83 1675 rm_L_skip := ⟨Nat.le_refl _, Nat.le_refl _, Nat.le_refl _, Nat.le_refl _⟩
def f_L_number (x0 : Nat) (x1 : Int32) (x2 : Nat) (h0 : Hs_t) : Rs_t := (ck_T [0] h0 x0).bind fun _ => bh_L (f_T_number x0 x1 h0) (fun v1 h1 => (as_L h1 x2 0 v1).bind fun h2 => re_I 0 h2) (fun t9 e4 hx4 => if t9 = 9 then (re_I 1 hx4) else (if t9 = 10 then (re_I 2 hx4) else (if t9 = 11 then (re_I 3 hx4) else (none))))
set_option maxRecDepth 100000 in
set_option maxHeartbeats 4000000 in
theorem c_L_number {l : Launch} {s0 : State} {A0 : Array Value} {G : Gx_t} (hG : G_0 l s0 A0 G) (rm : Room) (hrm : rm_Ok 2 12 84 1696 rm) (x0 : Nat) (x1 : Int32) (x2 : Nat) (h0 : Hs_t) (r : Outcome × Hs_t) (heq : f_L_number x0 x1 x2 h0 = some r) : M_X G s0 l y_L_number (.codeWith y_L_number b_L_number 4 (some .int) [(0, 8, 11, 13), (0, 8, 14, 15), (0, 8, 17, 32)]) rm [.ref x0, .int x1, .ref x2] h0 r := by
  refine M_X.ofH (by decide) hG (fun p e s m below meth c H hc hR => ?_)
  have hx := hc.x
  have hb := hc.b
  obtain ⟨hm1, hm2, hm3, hm4⟩ := id hrm
  have hLo : Lo_k s0 [] := fun _ hq => absurd hq List.not_mem_nil
  have hl := lv_entry ([.ref x0, .int x1, .ref x2]) (n := 4) (Nat.le_of_ble_eq_true rfl)
  rw [lg_entry_eq]
  generalize (lg_sl ([.ref x0, .int x1, .ref x2]) ++ List.replicate (4 - (lg_sl ([.ref x0, .int x1, .ref x2])).length) Slot.unset).toArray = ls at hl ⊢
  have hl : lv_has ls 4 [(0, .ref x0), (1, .int x1), (2, .ref x2)] := hl
  generalize hle : ([] : List Loc) = locs at hLo ⊢
  unfold f_L_number at heq
  refine lv_aload_n hx hb d_L_number_0 rfl (lv_at hl 2 rfl) ?_
  refine lv_iconst (v := 0) hx hb d_L_number_1 (by decide) ?_
  refine lv_aload_n hx hb d_L_number_2 rfl (lv_at hl 0 rfl) ?_
  refine lv_iload_n hx hb d_L_number_3 rfl (lv_at hl 1 rfl) ?_
  refine x_ck heq (fun tt fs ha ht heq => ?_)
  obtain rfl : tt = 0 := by simpa using ht
  refine x_hL (mc := 2) (ms := 12) (st := [.int 0, .ref x2]) hLo heq (fun r9 h9 => x_runV hc (c_T_number hc.g rm_T_number rk_T_number _ _ _ _ h9) md_T_number hR ha rfl wd_542 wd_543 wd_544 hl.1 ml_T_number rfl (Nat.le_of_ble_eq_true rfl) d_L_number_4 ⟨by show 83 + 1 ≤ _; omega, by show 8 + (2 + 11) + (1675) ≤ _; omega⟩ ⟨by show 0 + 2 ≤ _; omega, by show 0 + 12 ≤ _; omega⟩) (fun v1 h1 H locs hR hLo heq => ?_) (fun t9 e4 fs hx4 H locs ha hR hLo heq => ?_)
  · refine x_sL hc hR hLo heq d_L_number_7 (fun h2 H locs hR hLo heq => ?_)
    refine lv_goto (tgt := 20) hx hb d_L_number_8 rfl ?_
    refine lv_iconst (v := 0) hx hb d_L_number_20 (by decide) ?_
    exact x_iret hc hR hLo ⟨by omega, by omega⟩ heq d_L_number_21
  · by_cases hz9 : t9 = 9
    · subst hz9
      rw [if_pos rfl] at heq
      refine x_hnd (pre := []) (st9 := 0) (en9 := 8) (hp := 11) (ct9 := 13) (suf := [(0, 8, 14, 15), (0, 8, 17, 32)]) hc hR ha rfl (fun z hz => by cases hz) ⟨by decide, by decide, by decide, _, wd_204, wd_212⟩ ?_
      refine lv_astore_n (lv' := [(3, .ref e4), (0, .ref x0), (1, .int x1), (2, .ref x2)]) hx hb d_L_number_11 rfl hl (by decide) rfl (fun ls hl => ?_)
      refine lv_iconst (v := 1) hx hb d_L_number_12 (by decide) ?_
      exact x_iret hc hR hLo ⟨by omega, by omega⟩ heq d_L_number_13
    rw [if_neg hz9] at heq
    by_cases hz10 : t9 = 10
    · subst hz10
      rw [if_pos rfl] at heq
      refine x_hnd (pre := [(0, 8, 11, 13)]) (st9 := 0) (en9 := 8) (hp := 14) (ct9 := 15) (suf := [(0, 8, 17, 32)]) hc hR ha rfl (fun z hz => by rcases List.mem_cons.mp hz with rfl | hz; exact ⟨by decide, by decide, by decide, _, wd_204, by decide +kernel⟩; cases hz) ⟨by decide, by decide, by decide, _, wd_205, wd_280⟩ ?_
      refine lv_astore_n (lv' := [(3, .ref e4), (0, .ref x0), (1, .int x1), (2, .ref x2)]) hx hb d_L_number_14 rfl hl (by decide) rfl (fun ls hl => ?_)
      refine lv_iconst (v := 2) hx hb d_L_number_15 (by decide) ?_
      exact x_iret hc hR hLo ⟨by omega, by omega⟩ heq d_L_number_16
    rw [if_neg hz10] at heq
    by_cases hz11 : t9 = 11
    · subst hz11
      rw [if_pos rfl] at heq
      refine x_hnd (pre := [(0, 8, 11, 13), (0, 8, 14, 15)]) (st9 := 0) (en9 := 8) (hp := 17) (ct9 := 32) (suf := []) hc hR ha rfl (fun z hz => by rcases List.mem_cons.mp hz with rfl | hz; exact ⟨by decide, by decide, by decide, _, wd_204, by decide +kernel⟩; rcases List.mem_cons.mp hz with rfl | hz; exact ⟨by decide, by decide, by decide, _, wd_205, by decide +kernel⟩; cases hz) ⟨by decide, by decide, by decide, _, wd_508, wd_519⟩ ?_
      refine lv_astore_n (lv' := [(3, .ref e4), (0, .ref x0), (1, .int x1), (2, .ref x2)]) hx hb d_L_number_17 rfl hl (by decide) rfl (fun ls hl => ?_)
      refine lv_iconst (v := 3) hx hb d_L_number_18 (by decide) ?_
      exact x_iret hc hR hLo ⟨by omega, by omega⟩ heq d_L_number_19
    rw [if_neg hz11] at heq
    cases heq
def rm_L_number : Room := { frames := 84, cells := 2, slots := 12, locals := 1696 }
theorem rk_L_number : rm_Ok 2 12 84 1696 rm_L_number := ⟨Nat.le_refl _, Nat.le_refl _, Nat.le_refl _, Nat.le_refl _⟩
def f_L_text (x0 : Nat) (x1 : Nat) (h0 : Hs_t) : Rs_t := (ck_T [0] h0 x0).bind fun _ => bh_I (f_T_text x0 h0) (fun v1 h1 => (as_L h1 x1 0 ((v1 : Int32).toInt64)).bind fun h2 => re_I 0 h2) (fun t9 e3 hx3 => if t9 = 10 then (re_I 1 hx3) else (if t9 = 11 then (re_I 2 hx3) else (if t9 = 9 then (re_I 3 hx3) else (none))))
set_option maxRecDepth 100000 in
set_option maxHeartbeats 4000000 in
theorem c_L_text {l : Launch} {s0 : State} {A0 : Array Value} {G : Gx_t} (hG : G_0 l s0 A0 G) (rm : Room) (hrm : rm_Ok 4 24 84 1696 rm) (x0 : Nat) (x1 : Nat) (h0 : Hs_t) (r : Outcome × Hs_t) (heq : f_L_text x0 x1 h0 = some r) : M_X G s0 l y_L_text (.codeWith y_L_text b_L_text 3 (some .int) [(0, 8, 11, 15), (0, 8, 14, 32), (0, 8, 17, 13)]) rm [.ref x0, .ref x1] h0 r := by
  refine M_X.ofH (by decide) hG (fun p e s m below meth c H hc hR => ?_)
  have hx := hc.x
  have hb := hc.b
  obtain ⟨hm1, hm2, hm3, hm4⟩ := id hrm
  have hLo : Lo_k s0 [] := fun _ hq => absurd hq List.not_mem_nil
  have hl := lv_entry ([.ref x0, .ref x1]) (n := 3) (Nat.le_of_ble_eq_true rfl)
  rw [lg_entry_eq]
  generalize (lg_sl ([.ref x0, .ref x1]) ++ List.replicate (3 - (lg_sl ([.ref x0, .ref x1])).length) Slot.unset).toArray = ls at hl ⊢
  have hl : lv_has ls 3 [(0, .ref x0), (1, .ref x1)] := hl
  generalize hle : ([] : List Loc) = locs at hLo ⊢
  unfold f_L_text at heq
  refine lv_aload_n hx hb d_L_text_0 rfl (lv_at hl 1 rfl) ?_
  refine lv_iconst (v := 0) hx hb d_L_text_1 (by decide) ?_
  refine lv_aload_n hx hb d_L_text_2 rfl (lv_at hl 0 rfl) ?_
  refine x_ck heq (fun tt fs ha ht heq => ?_)
  obtain rfl : tt = 0 := by simpa using ht
  refine x_hI (mc := 4) (ms := 24) (st := [.int 0, .ref x1]) hLo heq (fun r9 h9 => x_runV hc (c_T_text hc.g rm_T_text rk_T_text _ _ _ h9) md_T_text hR ha rfl wd_553 wd_554 wd_555 hl.1 ml_T_text rfl (Nat.le_of_ble_eq_true rfl) d_L_text_3 ⟨by show 83 + 1 ≤ _; omega, by show 8 + (2 + 11) + (1675) ≤ _; omega⟩ ⟨by show 0 + 4 ≤ _; omega, by show 0 + 24 ≤ _; omega⟩) (fun v1 h1 H locs hR hLo heq => ?_) (fun t9 e3 fs hx3 H locs ha hR hLo heq => ?_)
  · refine lv_i2l (v := (v1 : Int32).toInt64) hx hb d_L_text_6 rfl ?_
    refine x_sL hc hR hLo heq d_L_text_7 (fun h2 H locs hR hLo heq => ?_)
    refine lv_goto (tgt := 20) hx hb d_L_text_8 rfl ?_
    refine lv_iconst (v := 0) hx hb d_L_text_20 (by decide) ?_
    exact x_iret hc hR hLo ⟨by omega, by omega⟩ heq d_L_text_21
  · by_cases hz10 : t9 = 10
    · subst hz10
      rw [if_pos rfl] at heq
      refine x_hnd (pre := []) (st9 := 0) (en9 := 8) (hp := 11) (ct9 := 15) (suf := [(0, 8, 14, 32), (0, 8, 17, 13)]) hc hR ha rfl (fun z hz => by cases hz) ⟨by decide, by decide, by decide, _, wd_205, wd_280⟩ ?_
      refine lv_astore_n (lv' := [(2, .ref e3), (0, .ref x0), (1, .ref x1)]) hx hb d_L_text_11 rfl hl (by decide) rfl (fun ls hl => ?_)
      refine lv_iconst (v := 1) hx hb d_L_text_12 (by decide) ?_
      exact x_iret hc hR hLo ⟨by omega, by omega⟩ heq d_L_text_13
    rw [if_neg hz10] at heq
    by_cases hz11 : t9 = 11
    · subst hz11
      rw [if_pos rfl] at heq
      refine x_hnd (pre := [(0, 8, 11, 15)]) (st9 := 0) (en9 := 8) (hp := 14) (ct9 := 32) (suf := [(0, 8, 17, 13)]) hc hR ha rfl (fun z hz => by rcases List.mem_cons.mp hz with rfl | hz; exact ⟨by decide, by decide, by decide, _, wd_205, by decide +kernel⟩; cases hz) ⟨by decide, by decide, by decide, _, wd_508, wd_519⟩ ?_
      refine lv_astore_n (lv' := [(2, .ref e3), (0, .ref x0), (1, .ref x1)]) hx hb d_L_text_14 rfl hl (by decide) rfl (fun ls hl => ?_)
      refine lv_iconst (v := 2) hx hb d_L_text_15 (by decide) ?_
      exact x_iret hc hR hLo ⟨by omega, by omega⟩ heq d_L_text_16
    rw [if_neg hz11] at heq
    by_cases hz9 : t9 = 9
    · subst hz9
      rw [if_pos rfl] at heq
      refine x_hnd (pre := [(0, 8, 11, 15), (0, 8, 14, 32)]) (st9 := 0) (en9 := 8) (hp := 17) (ct9 := 13) (suf := []) hc hR ha rfl (fun z hz => by rcases List.mem_cons.mp hz with rfl | hz; exact ⟨by decide, by decide, by decide, _, wd_205, by decide +kernel⟩; rcases List.mem_cons.mp hz with rfl | hz; exact ⟨by decide, by decide, by decide, _, wd_508, by decide +kernel⟩; cases hz) ⟨by decide, by decide, by decide, _, wd_204, wd_212⟩ ?_
      refine lv_astore_n (lv' := [(2, .ref e3), (0, .ref x0), (1, .ref x1)]) hx hb d_L_text_17 rfl hl (by decide) rfl (fun ls hl => ?_)
      refine lv_iconst (v := 3) hx hb d_L_text_18 (by decide) ?_
      exact x_iret hc hR hLo ⟨by omega, by omega⟩ heq d_L_text_19
    rw [if_neg hz9] at heq
    cases heq
def rm_L_text : Room := { frames := 84, cells := 4, slots := 24, locals := 1696 }
theorem rk_L_text : rm_Ok 4 24 84 1696 rm_L_text := ⟨Nat.le_refl _, Nat.le_refl _, Nat.le_refl _, Nat.le_refl _⟩
def f_L_line (x0 : Nat) (x1 : Nat) (h0 : Hs_t) : Rs_t := (ck_T [0] h0 x0).bind fun _ => bh_I (f_T_line x0 h0) (fun v1 h1 => (as_L h1 x1 0 ((v1 : Int32).toInt64)).bind fun h2 => re_I 0 h2) (fun t9 e3 hx3 => if t9 = 10 then (re_I 1 hx3) else (none))
set_option maxRecDepth 100000 in
set_option maxHeartbeats 4000000 in
theorem c_L_line {l : Launch} {s0 : State} {A0 : Array Value} {G : Gx_t} (hG : G_0 l s0 A0 G) (rm : Room) (hrm : rm_Ok 2 12 83 1674 rm) (x0 : Nat) (x1 : Nat) (h0 : Hs_t) (r : Outcome × Hs_t) (heq : f_L_line x0 x1 h0 = some r) : M_X G s0 l y_L_line (.codeWith y_L_line b_L_line 3 (some .int) [(0, 8, 11, 15)]) rm [.ref x0, .ref x1] h0 r := by
  refine M_X.ofH (by decide) hG (fun p e s m below meth c H hc hR => ?_)
  have hx := hc.x
  have hb := hc.b
  obtain ⟨hm1, hm2, hm3, hm4⟩ := id hrm
  have hLo : Lo_k s0 [] := fun _ hq => absurd hq List.not_mem_nil
  have hl := lv_entry ([.ref x0, .ref x1]) (n := 3) (Nat.le_of_ble_eq_true rfl)
  rw [lg_entry_eq]
  generalize (lg_sl ([.ref x0, .ref x1]) ++ List.replicate (3 - (lg_sl ([.ref x0, .ref x1])).length) Slot.unset).toArray = ls at hl ⊢
  have hl : lv_has ls 3 [(0, .ref x0), (1, .ref x1)] := hl
  generalize hle : ([] : List Loc) = locs at hLo ⊢
  unfold f_L_line at heq
  refine lv_aload_n hx hb d_L_line_0 rfl (lv_at hl 1 rfl) ?_
  refine lv_iconst (v := 0) hx hb d_L_line_1 (by decide) ?_
  refine lv_aload_n hx hb d_L_line_2 rfl (lv_at hl 0 rfl) ?_
  refine x_ck heq (fun tt fs ha ht heq => ?_)
  obtain rfl : tt = 0 := by simpa using ht
  refine x_hI (mc := 2) (ms := 12) (st := [.int 0, .ref x1]) hLo heq (fun r9 h9 => x_runV hc (c_T_line hc.g rm_T_line rk_T_line _ _ _ h9) md_T_line hR ha rfl wd_577 wd_578 wd_579 hl.1 ml_T_line rfl (Nat.le_of_ble_eq_true rfl) d_L_line_3 ⟨by show 82 + 1 ≤ _; omega, by show 8 + (4 + 11) + (1651) ≤ _; omega⟩ ⟨by show 0 + 2 ≤ _; omega, by show 0 + 12 ≤ _; omega⟩) (fun v1 h1 H locs hR hLo heq => ?_) (fun t9 e3 fs hx3 H locs ha hR hLo heq => ?_)
  · refine lv_i2l (v := (v1 : Int32).toInt64) hx hb d_L_line_6 rfl ?_
    refine x_sL hc hR hLo heq d_L_line_7 (fun h2 H locs hR hLo heq => ?_)
    refine lv_goto (tgt := 14) hx hb d_L_line_8 rfl ?_
    refine lv_iconst (v := 0) hx hb d_L_line_14 (by decide) ?_
    exact x_iret hc hR hLo ⟨by omega, by omega⟩ heq d_L_line_15
  · by_cases hz10 : t9 = 10
    · subst hz10
      rw [if_pos rfl] at heq
      refine x_hnd (pre := []) (st9 := 0) (en9 := 8) (hp := 11) (ct9 := 15) (suf := []) hc hR ha rfl (fun z hz => by cases hz) ⟨by decide, by decide, by decide, _, wd_205, wd_280⟩ ?_
      refine lv_astore_n (lv' := [(2, .ref e3), (0, .ref x0), (1, .ref x1)]) hx hb d_L_line_11 rfl hl (by decide) rfl (fun ls hl => ?_)
      refine lv_iconst (v := 1) hx hb d_L_line_12 (by decide) ?_
      exact x_iret hc hR hLo ⟨by omega, by omega⟩ heq d_L_line_13
    rw [if_neg hz10] at heq
    cases heq
def rm_L_line : Room := { frames := 83, cells := 2, slots := 12, locals := 1674 }
theorem rk_L_line : rm_Ok 2 12 83 1674 rm_L_line := ⟨Nat.le_refl _, Nat.le_refl _, Nat.le_refl _, Nat.le_refl _⟩
def f_L_mark (x0 : Nat) (x1 : Int32) (h0 : Hs_t) : Rs_t := (ck_T [0] h0 x0).bind fun _ => bh_V (f_T_mark x0 x1 h0) (fun h1 => re_I 0 h1) (fun t9 e2 hx2 => if t9 = 10 then (re_I 1 hx2) else (if t9 = 9 then (re_I 2 hx2) else (if t9 = 12 then (re_I 3 hx2) else (none))))
set_option maxRecDepth 100000 in
set_option maxHeartbeats 4000000 in
theorem c_L_mark {l : Launch} {s0 : State} {A0 : Array Value} {G : Gx_t} (hG : G_0 l s0 A0 G) (rm : Room) (hrm : rm_Ok 2 12 82 1650 rm) (x0 : Nat) (x1 : Int32) (h0 : Hs_t) (r : Outcome × Hs_t) (heq : f_L_mark x0 x1 h0 = some r) : M_X G s0 l y_L_mark (.codeWith y_L_mark b_L_mark 3 (some .int) [(0, 5, 8, 15), (0, 5, 11, 13), (0, 5, 14, 50)]) rm [.ref x0, .int x1] h0 r := by
  refine M_X.ofH (by decide) hG (fun p e s m below meth c H hc hR => ?_)
  have hx := hc.x
  have hb := hc.b
  obtain ⟨hm1, hm2, hm3, hm4⟩ := id hrm
  have hLo : Lo_k s0 [] := fun _ hq => absurd hq List.not_mem_nil
  have hl := lv_entry ([.ref x0, .int x1]) (n := 3) (Nat.le_of_ble_eq_true rfl)
  rw [lg_entry_eq]
  generalize (lg_sl ([.ref x0, .int x1]) ++ List.replicate (3 - (lg_sl ([.ref x0, .int x1])).length) Slot.unset).toArray = ls at hl ⊢
  have hl : lv_has ls 3 [(0, .ref x0), (1, .int x1)] := hl
  generalize hle : ([] : List Loc) = locs at hLo ⊢
  unfold f_L_mark at heq
  refine lv_aload_n hx hb d_L_mark_0 rfl (lv_at hl 0 rfl) ?_
  refine lv_iload_n hx hb d_L_mark_1 rfl (lv_at hl 1 rfl) ?_
  refine x_ck heq (fun tt fs ha ht heq => ?_)
  obtain rfl : tt = 0 := by simpa using ht
  refine x_hV (mc := 2) (ms := 12) (st := []) hLo heq (fun r9 h9 => x_runV hc (c_T_mark hc.g rm_T_mark rk_T_mark _ _ _ _ h9) md_T_mark hR ha rfl wd_585 wd_586 wd_587 hl.1 ml_T_mark rfl (Nat.le_of_ble_eq_true rfl) d_L_mark_2 ⟨by show 81 + 1 ≤ _; omega, by show 8 + (2 + 11) + (1629) ≤ _; omega⟩ ⟨by show 0 + 2 ≤ _; omega, by show 0 + 12 ≤ _; omega⟩) (fun h1 H locs hR hLo heq => ?_) (fun t9 e2 fs hx2 H locs ha hR hLo heq => ?_)
  · refine lv_goto (tgt := 17) hx hb d_L_mark_5 rfl ?_
    refine lv_iconst (v := 0) hx hb d_L_mark_17 (by decide) ?_
    exact x_iret hc hR hLo ⟨by omega, by omega⟩ heq d_L_mark_18
  · by_cases hz10 : t9 = 10
    · subst hz10
      rw [if_pos rfl] at heq
      refine x_hnd (pre := []) (st9 := 0) (en9 := 5) (hp := 8) (ct9 := 15) (suf := [(0, 5, 11, 13), (0, 5, 14, 50)]) hc hR ha rfl (fun z hz => by cases hz) ⟨by decide, by decide, by decide, _, wd_205, wd_280⟩ ?_
      refine lv_astore_n (lv' := [(2, .ref e2), (0, .ref x0), (1, .int x1)]) hx hb d_L_mark_8 rfl hl (by decide) rfl (fun ls hl => ?_)
      refine lv_iconst (v := 1) hx hb d_L_mark_9 (by decide) ?_
      exact x_iret hc hR hLo ⟨by omega, by omega⟩ heq d_L_mark_10
    rw [if_neg hz10] at heq
    by_cases hz9 : t9 = 9
    · subst hz9
      rw [if_pos rfl] at heq
      refine x_hnd (pre := [(0, 5, 8, 15)]) (st9 := 0) (en9 := 5) (hp := 11) (ct9 := 13) (suf := [(0, 5, 14, 50)]) hc hR ha rfl (fun z hz => by rcases List.mem_cons.mp hz with rfl | hz; exact ⟨by decide, by decide, by decide, _, wd_205, by decide +kernel⟩; cases hz) ⟨by decide, by decide, by decide, _, wd_204, wd_212⟩ ?_
      refine lv_astore_n (lv' := [(2, .ref e2), (0, .ref x0), (1, .int x1)]) hx hb d_L_mark_11 rfl hl (by decide) rfl (fun ls hl => ?_)
      refine lv_iconst (v := 2) hx hb d_L_mark_12 (by decide) ?_
      exact x_iret hc hR hLo ⟨by omega, by omega⟩ heq d_L_mark_13
    rw [if_neg hz9] at heq
    by_cases hz12 : t9 = 12
    · subst hz12
      rw [if_pos rfl] at heq
      refine x_hnd (pre := [(0, 5, 8, 15), (0, 5, 11, 13)]) (st9 := 0) (en9 := 5) (hp := 14) (ct9 := 50) (suf := []) hc hR ha rfl (fun z hz => by rcases List.mem_cons.mp hz with rfl | hz; exact ⟨by decide, by decide, by decide, _, wd_205, by decide +kernel⟩; rcases List.mem_cons.mp hz with rfl | hz; exact ⟨by decide, by decide, by decide, _, wd_204, by decide +kernel⟩; cases hz) ⟨by decide, by decide, by decide, _, wd_584, wd_606⟩ ?_
      refine lv_astore_n (lv' := [(2, .ref e2), (0, .ref x0), (1, .int x1)]) hx hb d_L_mark_14 rfl hl (by decide) rfl (fun ls hl => ?_)
      refine lv_iconst (v := 3) hx hb d_L_mark_15 (by decide) ?_
      exact x_iret hc hR hLo ⟨by omega, by omega⟩ heq d_L_mark_16
    rw [if_neg hz12] at heq
    cases heq
def rm_L_mark : Room := { frames := 82, cells := 2, slots := 12, locals := 1650 }
theorem rk_L_mark : rm_Ok 2 12 82 1650 rm_L_mark := ⟨Nat.le_refl _, Nat.le_refl _, Nat.le_refl _, Nat.le_refl _⟩
def f_L_reset (x0 : Nat) (h0 : Hs_t) : Rs_t := (ck_T [0] h0 x0).bind fun _ => bh_V (f_T_reset x0 h0) (fun h1 => re_I 0 h1) (fun t9 e1 hx1 => if t9 = 10 then (re_I 1 hx1) else (if t9 = 12 then (re_I 2 hx1) else (none)))
set_option maxRecDepth 100000 in
set_option maxHeartbeats 4000000 in
theorem c_L_reset {l : Launch} {s0 : State} {A0 : Array Value} {G : Gx_t} (hG : G_0 l s0 A0 G) (rm : Room) (hrm : rm_Ok 2 12 82 1649 rm) (x0 : Nat) (h0 : Hs_t) (r : Outcome × Hs_t) (heq : f_L_reset x0 h0 = some r) : M_X G s0 l y_L_reset (.codeWith y_L_reset b_L_reset 2 (some .int) [(0, 4, 7, 15), (0, 4, 10, 50)]) rm [.ref x0] h0 r := by
  refine M_X.ofH (by decide) hG (fun p e s m below meth c H hc hR => ?_)
  have hx := hc.x
  have hb := hc.b
  obtain ⟨hm1, hm2, hm3, hm4⟩ := id hrm
  have hLo : Lo_k s0 [] := fun _ hq => absurd hq List.not_mem_nil
  have hl := lv_entry ([.ref x0]) (n := 2) (Nat.le_of_ble_eq_true rfl)
  rw [lg_entry_eq]
  generalize (lg_sl ([.ref x0]) ++ List.replicate (2 - (lg_sl ([.ref x0])).length) Slot.unset).toArray = ls at hl ⊢
  have hl : lv_has ls 2 [(0, .ref x0)] := hl
  generalize hle : ([] : List Loc) = locs at hLo ⊢
  unfold f_L_reset at heq
  refine lv_aload_n hx hb d_L_reset_0 rfl (lv_at hl 0 rfl) ?_
  refine x_ck heq (fun tt fs ha ht heq => ?_)
  obtain rfl : tt = 0 := by simpa using ht
  refine x_hV (mc := 2) (ms := 12) (st := []) hLo heq (fun r9 h9 => x_runV hc (c_T_reset hc.g rm_T_reset rk_T_reset _ _ _ h9) md_T_reset hR ha rfl wd_649 wd_650 wd_651 hl.1 ml_T_reset rfl (Nat.le_of_ble_eq_true rfl) d_L_reset_1 ⟨by show 81 + 1 ≤ _; omega, by show 8 + (1 + 11) + (1629) ≤ _; omega⟩ ⟨by show 0 + 2 ≤ _; omega, by show 0 + 12 ≤ _; omega⟩) (fun h1 H locs hR hLo heq => ?_) (fun t9 e1 fs hx1 H locs ha hR hLo heq => ?_)
  · refine lv_goto (tgt := 13) hx hb d_L_reset_4 rfl ?_
    refine lv_iconst (v := 0) hx hb d_L_reset_13 (by decide) ?_
    exact x_iret hc hR hLo ⟨by omega, by omega⟩ heq d_L_reset_14
  · by_cases hz10 : t9 = 10
    · subst hz10
      rw [if_pos rfl] at heq
      refine x_hnd (pre := []) (st9 := 0) (en9 := 4) (hp := 7) (ct9 := 15) (suf := [(0, 4, 10, 50)]) hc hR ha rfl (fun z hz => by cases hz) ⟨by decide, by decide, by decide, _, wd_205, wd_280⟩ ?_
      refine lv_astore_n (lv' := [(1, .ref e1), (0, .ref x0)]) hx hb d_L_reset_7 rfl hl (by decide) rfl (fun ls hl => ?_)
      refine lv_iconst (v := 1) hx hb d_L_reset_8 (by decide) ?_
      exact x_iret hc hR hLo ⟨by omega, by omega⟩ heq d_L_reset_9
    rw [if_neg hz10] at heq
    by_cases hz12 : t9 = 12
    · subst hz12
      rw [if_pos rfl] at heq
      refine x_hnd (pre := [(0, 4, 7, 15)]) (st9 := 0) (en9 := 4) (hp := 10) (ct9 := 50) (suf := []) hc hR ha rfl (fun z hz => by rcases List.mem_cons.mp hz with rfl | hz; exact ⟨by decide, by decide, by decide, _, wd_205, by decide +kernel⟩; cases hz) ⟨by decide, by decide, by decide, _, wd_584, wd_606⟩ ?_
      refine lv_astore_n (lv' := [(1, .ref e1), (0, .ref x0)]) hx hb d_L_reset_10 rfl hl (by decide) rfl (fun ls hl => ?_)
      refine lv_iconst (v := 2) hx hb d_L_reset_11 (by decide) ?_
      exact x_iret hc hR hLo ⟨by omega, by omega⟩ heq d_L_reset_12
    rw [if_neg hz12] at heq
    cases heq
def rm_L_reset : Room := { frames := 82, cells := 2, slots := 12, locals := 1649 }
theorem rk_L_reset : rm_Ok 2 12 82 1649 rm_L_reset := ⟨Nat.le_refl _, Nat.le_refl _, Nat.le_refl _, Nat.le_refl _⟩
def f_L_unread (x0 : Nat) (x1 : Int32) (h0 : Hs_t) : Rs_t := (ck_T [0] h0 x0).bind fun _ => bh_V (f_T_unread x0 x1 h0) (fun h1 => re_I 0 h1) (fun t9 e2 hx2 => if t9 = 10 then (re_I 1 hx2) else (if t9 = 9 then (re_I 2 hx2) else (if t9 = 12 then (re_I 3 hx2) else (none))))
set_option maxRecDepth 100000 in
set_option maxHeartbeats 4000000 in
theorem c_L_unread {l : Launch} {s0 : State} {A0 : Array Value} {G : Gx_t} (hG : G_0 l s0 A0 G) (rm : Room) (hrm : rm_Ok 2 12 8 123 rm) (x0 : Nat) (x1 : Int32) (h0 : Hs_t) (r : Outcome × Hs_t) (heq : f_L_unread x0 x1 h0 = some r) : M_X G s0 l y_L_unread (.codeWith y_L_unread b_L_unread 3 (some .int) [(0, 5, 8, 15), (0, 5, 11, 13), (0, 5, 14, 50)]) rm [.ref x0, .int x1] h0 r := by
  refine M_X.ofH (by decide) hG (fun p e s m below meth c H hc hR => ?_)
  have hx := hc.x
  have hb := hc.b
  obtain ⟨hm1, hm2, hm3, hm4⟩ := id hrm
  have hLo : Lo_k s0 [] := fun _ hq => absurd hq List.not_mem_nil
  have hl := lv_entry ([.ref x0, .int x1]) (n := 3) (Nat.le_of_ble_eq_true rfl)
  rw [lg_entry_eq]
  generalize (lg_sl ([.ref x0, .int x1]) ++ List.replicate (3 - (lg_sl ([.ref x0, .int x1])).length) Slot.unset).toArray = ls at hl ⊢
  have hl : lv_has ls 3 [(0, .ref x0), (1, .int x1)] := hl
  generalize hle : ([] : List Loc) = locs at hLo ⊢
  unfold f_L_unread at heq
  refine lv_aload_n hx hb d_L_unread_0 rfl (lv_at hl 0 rfl) ?_
  refine lv_iload_n hx hb d_L_unread_1 rfl (lv_at hl 1 rfl) ?_
  refine x_ck heq (fun tt fs ha ht heq => ?_)
  obtain rfl : tt = 0 := by simpa using ht
  refine x_hV (mc := 2) (ms := 12) (st := []) hLo heq (fun r9 h9 => x_runV hc (c_T_unread hc.g rm_T_unread rk_T_unread _ _ _ _ h9) md_T_unread hR ha rfl wd_698 wd_699 wd_700 hl.1 ml_T_unread rfl (Nat.le_of_ble_eq_true rfl) d_L_unread_2 ⟨by show 7 + 1 ≤ _; omega, by show 8 + (3 + 11) + (101) ≤ _; omega⟩ ⟨by show 0 + 2 ≤ _; omega, by show 0 + 12 ≤ _; omega⟩) (fun h1 H locs hR hLo heq => ?_) (fun t9 e2 fs hx2 H locs ha hR hLo heq => ?_)
  · refine lv_goto (tgt := 17) hx hb d_L_unread_5 rfl ?_
    refine lv_iconst (v := 0) hx hb d_L_unread_17 (by decide) ?_
    exact x_iret hc hR hLo ⟨by omega, by omega⟩ heq d_L_unread_18
  · by_cases hz10 : t9 = 10
    · subst hz10
      rw [if_pos rfl] at heq
      refine x_hnd (pre := []) (st9 := 0) (en9 := 5) (hp := 8) (ct9 := 15) (suf := [(0, 5, 11, 13), (0, 5, 14, 50)]) hc hR ha rfl (fun z hz => by cases hz) ⟨by decide, by decide, by decide, _, wd_205, wd_280⟩ ?_
      refine lv_astore_n (lv' := [(2, .ref e2), (0, .ref x0), (1, .int x1)]) hx hb d_L_unread_8 rfl hl (by decide) rfl (fun ls hl => ?_)
      refine lv_iconst (v := 1) hx hb d_L_unread_9 (by decide) ?_
      exact x_iret hc hR hLo ⟨by omega, by omega⟩ heq d_L_unread_10
    rw [if_neg hz10] at heq
    by_cases hz9 : t9 = 9
    · subst hz9
      rw [if_pos rfl] at heq
      refine x_hnd (pre := [(0, 5, 8, 15)]) (st9 := 0) (en9 := 5) (hp := 11) (ct9 := 13) (suf := [(0, 5, 14, 50)]) hc hR ha rfl (fun z hz => by rcases List.mem_cons.mp hz with rfl | hz; exact ⟨by decide, by decide, by decide, _, wd_205, by decide +kernel⟩; cases hz) ⟨by decide, by decide, by decide, _, wd_204, wd_212⟩ ?_
      refine lv_astore_n (lv' := [(2, .ref e2), (0, .ref x0), (1, .int x1)]) hx hb d_L_unread_11 rfl hl (by decide) rfl (fun ls hl => ?_)
      refine lv_iconst (v := 2) hx hb d_L_unread_12 (by decide) ?_
      exact x_iret hc hR hLo ⟨by omega, by omega⟩ heq d_L_unread_13
    rw [if_neg hz9] at heq
    by_cases hz12 : t9 = 12
    · subst hz12
      rw [if_pos rfl] at heq
      refine x_hnd (pre := [(0, 5, 8, 15), (0, 5, 11, 13)]) (st9 := 0) (en9 := 5) (hp := 14) (ct9 := 50) (suf := []) hc hR ha rfl (fun z hz => by rcases List.mem_cons.mp hz with rfl | hz; exact ⟨by decide, by decide, by decide, _, wd_205, by decide +kernel⟩; rcases List.mem_cons.mp hz with rfl | hz; exact ⟨by decide, by decide, by decide, _, wd_204, by decide +kernel⟩; cases hz) ⟨by decide, by decide, by decide, _, wd_584, wd_606⟩ ?_
      refine lv_astore_n (lv' := [(2, .ref e2), (0, .ref x0), (1, .int x1)]) hx hb d_L_unread_14 rfl hl (by decide) rfl (fun ls hl => ?_)
      refine lv_iconst (v := 3) hx hb d_L_unread_15 (by decide) ?_
      exact x_iret hc hR hLo ⟨by omega, by omega⟩ heq d_L_unread_16
    rw [if_neg hz12] at heq
    cases heq
def rm_L_unread : Room := { frames := 8, cells := 2, slots := 12, locals := 123 }
theorem rk_L_unread : rm_Ok 2 12 8 123 rm_L_unread := ⟨Nat.le_refl _, Nat.le_refl _, Nat.le_refl _, Nat.le_refl _⟩
