theorem el_Ok : tg_Ok ex_El [2, 3, 4, 5, 6, 7] := fun t ht => by
  simp only [List.mem_cons, List.not_mem_nil, or_false] at ht
  rcases ht with rfl | rfl | rfl | rfl | rfl | rfl
  · exact ⟨_, _, _, rfl, wd_954⟩
  · exact ⟨_, _, _, rfl, wd_949⟩
  · exact ⟨_, _, _, rfl, wd_953⟩
  · exact ⟨_, _, _, rfl, wd_951⟩
  · exact ⟨_, _, _, rfl, wd_950⟩
  · exact ⟨_, _, _, rfl, wd_952⟩
theorem d_Str_init_0 : decode b_Str_init 0 = .ok (.aload_n 0, 1) := by decide +kernel
theorem d_Str_init_1 : decode b_Str_init 1 = .ok (.invokespecial 1, 3) := by decide +kernel
theorem d_Str_init_4 : decode b_Str_init 4 = .ok (.return_, 1) := by decide +kernel
theorem d_Src_init_0 : decode b_Src_init 0 = .ok (.aload_n 0, 1) := by decide +kernel
theorem d_Src_init_1 : decode b_Src_init 1 = .ok (.invokespecial 3, 3) := by decide +kernel
theorem d_Src_init_4 : decode b_Src_init 4 = .ok (.aload_n 0, 1) := by decide +kernel
theorem d_Src_init_5 : decode b_Src_init 5 = .ok (.bipush 120, 2) := by decide +kernel
theorem d_Src_init_7 : decode b_Src_init 7 = .ok (.newarray .int, 2) := by decide +kernel
theorem d_Src_init_9 : decode b_Src_init 9 = .ok (.putfield 9, 3) := by decide +kernel
theorem d_Src_init_12 : decode b_Src_init 12 = .ok (.aload_n 0, 1) := by decide +kernel
theorem d_Src_init_13 : decode b_Src_init 13 = .ok (.bipush 121, 2) := by decide +kernel
theorem d_Src_init_15 : decode b_Src_init 15 = .ok (.newarray .boolean, 2) := by decide +kernel
theorem d_Src_init_17 : decode b_Src_init 17 = .ok (.putfield 15, 3) := by decide +kernel
theorem d_Src_init_20 : decode b_Src_init 20 = .ok (.aload_n 0, 1) := by decide +kernel
theorem d_Src_init_21 : decode b_Src_init 21 = .ok (.bipush 121, 2) := by decide +kernel
theorem d_Src_init_23 : decode b_Src_init 23 = .ok (.newarray .boolean, 2) := by decide +kernel
theorem d_Src_init_25 : decode b_Src_init 25 = .ok (.putfield 19, 3) := by decide +kernel
theorem d_Src_init_28 : decode b_Src_init 28 = .ok (.return_, 1) := by decide +kernel
theorem d_Src_hasRoomFor_0 : decode b_Src_hasRoomFor 0 = .ok (.aload_n 0, 1) := by decide +kernel
theorem d_Src_hasRoomFor_1 : decode b_Src_hasRoomFor 1 = .ok (.getfield 22, 3) := by decide +kernel
theorem d_Src_hasRoomFor_4 : decode b_Src_hasRoomFor 4 = .ok (.iload_n 1, 1) := by decide +kernel
theorem d_Src_hasRoomFor_5 : decode b_Src_hasRoomFor 5 = .ok (.iadd, 1) := by decide +kernel
theorem d_Src_hasRoomFor_6 : decode b_Src_hasRoomFor 6 = .ok (.aload_n 0, 1) := by decide +kernel
theorem d_Src_hasRoomFor_7 : decode b_Src_hasRoomFor 7 = .ok (.getfield 9, 3) := by decide +kernel
theorem d_Src_hasRoomFor_10 : decode b_Src_hasRoomFor 10 = .ok (.arraylength, 1) := by decide +kernel
theorem d_Src_hasRoomFor_11 : decode b_Src_hasRoomFor 11 = .ok (.if_icmp .gt 7, 3) := by decide +kernel
theorem d_Src_hasRoomFor_14 : decode b_Src_hasRoomFor 14 = .ok (.iconst 1, 1) := by decide +kernel
theorem d_Src_hasRoomFor_15 : decode b_Src_hasRoomFor 15 = .ok (.goto 4, 3) := by decide +kernel
theorem d_Src_hasRoomFor_18 : decode b_Src_hasRoomFor 18 = .ok (.iconst 0, 1) := by decide +kernel
theorem d_Src_hasRoomFor_19 : decode b_Src_hasRoomFor 19 = .ok (.ireturn, 1) := by decide +kernel
theorem d_Src_append_0 : decode b_Src_append 0 = .ok (.aload_n 0, 1) := by decide +kernel
theorem d_Src_append_1 : decode b_Src_append 1 = .ok (.iconst 1, 1) := by decide +kernel
theorem d_Src_append_2 : decode b_Src_append 2 = .ok (.invokevirtual 26, 3) := by decide +kernel
theorem d_Src_append_5 : decode b_Src_append 5 = .ok (.ifCond .eq 23, 3) := by decide +kernel
theorem d_Src_append_8 : decode b_Src_append 8 = .ok (.aload_n 0, 1) := by decide +kernel
theorem d_Src_append_9 : decode b_Src_append 9 = .ok (.getfield 9, 3) := by decide +kernel
theorem d_Src_append_12 : decode b_Src_append 12 = .ok (.aload_n 0, 1) := by decide +kernel
theorem d_Src_append_13 : decode b_Src_append 13 = .ok (.getfield 22, 3) := by decide +kernel
theorem d_Src_append_16 : decode b_Src_append 16 = .ok (.iload_n 1, 1) := by decide +kernel
theorem d_Src_append_17 : decode b_Src_append 17 = .ok (.iastore, 1) := by decide +kernel
theorem d_Src_append_18 : decode b_Src_append 18 = .ok (.aload_n 0, 1) := by decide +kernel
theorem d_Src_append_19 : decode b_Src_append 19 = .ok (.dup, 1) := by decide +kernel
theorem d_Src_append_20 : decode b_Src_append 20 = .ok (.getfield 22, 3) := by decide +kernel
theorem d_Src_append_23 : decode b_Src_append 23 = .ok (.iconst 1, 1) := by decide +kernel
theorem d_Src_append_24 : decode b_Src_append 24 = .ok (.iadd, 1) := by decide +kernel
theorem d_Src_append_25 : decode b_Src_append 25 = .ok (.putfield 22, 3) := by decide +kernel
theorem d_Src_append_28 : decode b_Src_append 28 = .ok (.return_, 1) := by decide +kernel
theorem d_Src_startPortion_0 : decode b_Src_startPortion 0 = .ok (.aload_n 0, 1) := by decide +kernel
theorem d_Src_startPortion_1 : decode b_Src_startPortion 1 = .ok (.getfield 15, 3) := by decide +kernel
theorem d_Src_startPortion_4 : decode b_Src_startPortion 4 = .ok (.aload_n 0, 1) := by decide +kernel
theorem d_Src_startPortion_5 : decode b_Src_startPortion 5 = .ok (.getfield 22, 3) := by decide +kernel
theorem d_Src_startPortion_8 : decode b_Src_startPortion 8 = .ok (.iconst 1, 1) := by decide +kernel
theorem d_Src_startPortion_9 : decode b_Src_startPortion 9 = .ok (.bastore, 1) := by decide +kernel
theorem d_Src_startPortion_10 : decode b_Src_startPortion 10 = .ok (.return_, 1) := by decide +kernel
theorem d_Src_mend_0 : decode b_Src_mend 0 = .ok (.iconst 0, 1) := by decide +kernel
theorem d_Src_mend_1 : decode b_Src_mend 1 = .ok (.istore_n 1, 1) := by decide +kernel
theorem d_Src_mend_2 : decode b_Src_mend 2 = .ok (.iload_n 1, 1) := by decide +kernel
theorem d_Src_mend_3 : decode b_Src_mend 3 = .ok (.aload_n 0, 1) := by decide +kernel
theorem d_Src_mend_4 : decode b_Src_mend 4 = .ok (.getfield 19, 3) := by decide +kernel
theorem d_Src_mend_7 : decode b_Src_mend 7 = .ok (.arraylength, 1) := by decide +kernel
theorem d_Src_mend_8 : decode b_Src_mend 8 = .ok (.if_icmp .ge 16, 3) := by decide +kernel
theorem d_Src_mend_11 : decode b_Src_mend 11 = .ok (.aload_n 0, 1) := by decide +kernel
theorem d_Src_mend_12 : decode b_Src_mend 12 = .ok (.getfield 19, 3) := by decide +kernel
theorem d_Src_mend_15 : decode b_Src_mend 15 = .ok (.iload_n 1, 1) := by decide +kernel
theorem d_Src_mend_16 : decode b_Src_mend 16 = .ok (.iconst 0, 1) := by decide +kernel
theorem d_Src_mend_17 : decode b_Src_mend 17 = .ok (.bastore, 1) := by decide +kernel
theorem d_Src_mend_18 : decode b_Src_mend 18 = .ok (.iinc 1 1, 3) := by decide +kernel
theorem d_Src_mend_21 : decode b_Src_mend 21 = .ok (.goto (-19), 3) := by decide +kernel
theorem d_Src_mend_24 : decode b_Src_mend 24 = .ok (.return_, 1) := by decide +kernel
theorem d_Src_breakPlace_0 : decode b_Src_breakPlace 0 = .ok (.iload_n 1, 1) := by decide +kernel
theorem d_Src_breakPlace_1 : decode b_Src_breakPlace 1 = .ok (.ifCond .lt 12, 3) := by decide +kernel
theorem d_Src_breakPlace_4 : decode b_Src_breakPlace 4 = .ok (.iload_n 1, 1) := by decide +kernel
theorem d_Src_breakPlace_5 : decode b_Src_breakPlace 5 = .ok (.aload_n 0, 1) := by decide +kernel
theorem d_Src_breakPlace_6 : decode b_Src_breakPlace 6 = .ok (.getfield 19, 3) := by decide +kernel
theorem d_Src_breakPlace_9 : decode b_Src_breakPlace 9 = .ok (.arraylength, 1) := by decide +kernel
theorem d_Src_breakPlace_10 : decode b_Src_breakPlace 10 = .ok (.if_icmp .lt 5, 3) := by decide +kernel
theorem d_Src_breakPlace_13 : decode b_Src_breakPlace 13 = .ok (.iconst 0, 1) := by decide +kernel
theorem d_Src_breakPlace_14 : decode b_Src_breakPlace 14 = .ok (.ireturn, 1) := by decide +kernel
theorem d_Src_breakPlace_15 : decode b_Src_breakPlace 15 = .ok (.aload_n 0, 1) := by decide +kernel
theorem d_Src_breakPlace_16 : decode b_Src_breakPlace 16 = .ok (.getfield 19, 3) := by decide +kernel
theorem d_Src_breakPlace_19 : decode b_Src_breakPlace 19 = .ok (.iload_n 1, 1) := by decide +kernel
theorem d_Src_breakPlace_20 : decode b_Src_breakPlace 20 = .ok (.iconst 1, 1) := by decide +kernel
theorem d_Src_breakPlace_21 : decode b_Src_breakPlace 21 = .ok (.bastore, 1) := by decide +kernel
theorem d_Src_breakPlace_22 : decode b_Src_breakPlace 22 = .ok (.iconst 1, 1) := by decide +kernel
theorem d_Src_breakPlace_23 : decode b_Src_breakPlace 23 = .ok (.ireturn, 1) := by decide +kernel
theorem d_Src_ready_0 : decode b_Src_ready 0 = .ok (.aload_n 0, 1) := by decide +kernel
theorem d_Src_ready_1 : decode b_Src_ready 1 = .ok (.getfield 30, 3) := by decide +kernel
theorem d_Src_ready_4 : decode b_Src_ready 4 = .ok (.istore_n 1, 1) := by decide +kernel
theorem d_Src_ready_5 : decode b_Src_ready 5 = .ok (.iload_n 1, 1) := by decide +kernel
theorem d_Src_ready_6 : decode b_Src_ready 6 = .ok (.aload_n 0, 1) := by decide +kernel
theorem d_Src_ready_7 : decode b_Src_ready 7 = .ok (.getfield 22, 3) := by decide +kernel
theorem d_Src_ready_10 : decode b_Src_ready 10 = .ok (.if_icmp .ge 26, 3) := by decide +kernel
theorem d_Src_ready_13 : decode b_Src_ready 13 = .ok (.iload_n 1, 1) := by decide +kernel
theorem d_Src_ready_14 : decode b_Src_ready 14 = .ok (.aload_n 0, 1) := by decide +kernel
theorem d_Src_ready_15 : decode b_Src_ready 15 = .ok (.getfield 30, 3) := by decide +kernel
theorem d_Src_ready_18 : decode b_Src_ready 18 = .ok (.if_icmp .eq 12, 3) := by decide +kernel
theorem d_Src_ready_21 : decode b_Src_ready 21 = .ok (.aload_n 0, 1) := by decide +kernel
theorem d_Src_ready_22 : decode b_Src_ready 22 = .ok (.getfield 15, 3) := by decide +kernel
theorem d_Src_ready_25 : decode b_Src_ready 25 = .ok (.iload_n 1, 1) := by decide +kernel
theorem d_Src_ready_26 : decode b_Src_ready 26 = .ok (.baload, 1) := by decide +kernel
theorem d_Src_ready_27 : decode b_Src_ready 27 = .ok (.ifCond .ne 9, 3) := by decide +kernel
theorem d_Src_ready_30 : decode b_Src_ready 30 = .ok (.iinc 1 1, 3) := by decide +kernel
theorem d_Src_ready_33 : decode b_Src_ready 33 = .ok (.goto (-28), 3) := by decide +kernel
theorem d_Src_ready_36 : decode b_Src_ready 36 = .ok (.iload_n 1, 1) := by decide +kernel
theorem d_Src_ready_37 : decode b_Src_ready 37 = .ok (.aload_n 0, 1) := by decide +kernel
theorem d_Src_ready_38 : decode b_Src_ready 38 = .ok (.getfield 30, 3) := by decide +kernel
theorem d_Src_ready_41 : decode b_Src_ready 41 = .ok (.isub, 1) := by decide +kernel
theorem d_Src_ready_42 : decode b_Src_ready 42 = .ok (.ireturn, 1) := by decide +kernel
theorem d_Src_answer_0 : decode b_Src_answer 0 = .ok (.aload_n 0, 1) := by decide +kernel
theorem d_Src_answer_1 : decode b_Src_answer 1 = .ok (.getfield 19, 3) := by decide +kernel
theorem d_Src_answer_4 : decode b_Src_answer 4 = .ok (.aload_n 0, 1) := by decide +kernel
theorem d_Src_answer_5 : decode b_Src_answer 5 = .ok (.getfield 30, 3) := by decide +kernel
theorem d_Src_answer_8 : decode b_Src_answer 8 = .ok (.baload, 1) := by decide +kernel
theorem d_Src_answer_9 : decode b_Src_answer 9 = .ok (.ifCond .eq 5, 3) := by decide +kernel
theorem d_Src_answer_12 : decode b_Src_answer 12 = .ok (.iconst (-1), 1) := by decide +kernel
theorem d_Src_answer_13 : decode b_Src_answer 13 = .ok (.ireturn, 1) := by decide +kernel
theorem d_Src_answer_14 : decode b_Src_answer 14 = .ok (.iload_n 1, 1) := by decide +kernel
theorem d_Src_answer_15 : decode b_Src_answer 15 = .ok (.aload_n 0, 1) := by decide +kernel
theorem d_Src_answer_16 : decode b_Src_answer 16 = .ok (.invokevirtual 33, 3) := by decide +kernel
theorem d_Src_answer_19 : decode b_Src_answer 19 = .ok (.invokestatic 37, 3) := by decide +kernel
theorem d_Src_answer_22 : decode b_Src_answer 22 = .ok (.istore 4, 2) := by decide +kernel
theorem d_Src_answer_24 : decode b_Src_answer 24 = .ok (.aload_n 0, 1) := by decide +kernel
theorem d_Src_answer_25 : decode b_Src_answer 25 = .ok (.getfield 9, 3) := by decide +kernel
theorem d_Src_answer_28 : decode b_Src_answer 28 = .ok (.aload_n 0, 1) := by decide +kernel
theorem d_Src_answer_29 : decode b_Src_answer 29 = .ok (.getfield 30, 3) := by decide +kernel
theorem d_Src_answer_32 : decode b_Src_answer 32 = .ok (.aload_n 2, 1) := by decide +kernel
theorem d_Src_answer_33 : decode b_Src_answer 33 = .ok (.iload_n 3, 1) := by decide +kernel
theorem d_Src_answer_34 : decode b_Src_answer 34 = .ok (.iload 4, 2) := by decide +kernel
theorem d_Src_answer_36 : decode b_Src_answer 36 = .ok (.invokestatic 43, 3) := by decide +kernel
theorem d_Src_answer_39 : decode b_Src_answer 39 = .ok (.aload_n 0, 1) := by decide +kernel
theorem d_Src_answer_40 : decode b_Src_answer 40 = .ok (.dup, 1) := by decide +kernel
theorem d_Src_answer_41 : decode b_Src_answer 41 = .ok (.getfield 30, 3) := by decide +kernel
theorem d_Src_answer_44 : decode b_Src_answer 44 = .ok (.iload 4, 2) := by decide +kernel
theorem d_Src_answer_46 : decode b_Src_answer 46 = .ok (.iadd, 1) := by decide +kernel
theorem d_Src_answer_47 : decode b_Src_answer 47 = .ok (.putfield 30, 3) := by decide +kernel
theorem d_Src_answer_50 : decode b_Src_answer 50 = .ok (.iload 4, 2) := by decide +kernel
theorem d_Src_answer_52 : decode b_Src_answer 52 = .ok (.ireturn, 1) := by decide +kernel
theorem d_Src_state_0 : decode b_Src_state 0 = .ok (.aload_n 0, 1) := by decide +kernel
theorem d_Src_state_1 : decode b_Src_state 1 = .ok (.getfield 30, 3) := by decide +kernel
theorem d_Src_state_4 : decode b_Src_state 4 = .ok (.ireturn, 1) := by decide +kernel
theorem d_Str_canBeMarked_0 : decode b_Str_canBeMarked 0 = .ok (.iconst 0, 1) := by decide +kernel
theorem d_Str_canBeMarked_1 : decode b_Str_canBeMarked 1 = .ok (.ireturn, 1) := by decide +kernel
theorem d_Str_hasMark_0 : decode b_Str_hasMark 0 = .ok (.iconst 0, 1) := by decide +kernel
theorem d_Str_hasMark_1 : decode b_Str_hasMark 1 = .ok (.ireturn, 1) := by decide +kernel
theorem d_Str_takeMark_0 : decode b_Str_takeMark 0 = .ok (.return_, 1) := by decide +kernel
theorem d_Str_goBack_0 : decode b_Str_goBack 0 = .ok (.return_, 1) := by decide +kernel
theorem md_Str_init : md_Ok y_Str_init (.code y_Str_init b_Str_init 1 none) 1 := ⟨wd_36, wd_2, ⟨by decide, by decide⟩, Or.inl ⟨_, _, rfl⟩⟩
theorem ml_Str_init : (parseMethodDescriptor y_Str_init.desc).map (fun d => d.parameters.length) = some 0 := by decide +kernel
theorem fl_Src_9 : fl_Ok "StreamTower$Source" 9 "StreamTower$Source" "bytes" "[I" "StreamTower$Source" [2] 0 true (.array .int) := ⟨wd_38, by decide +kernel, Or.inl rfl, fun t ht => by obtain rfl := List.mem_singleton.mp ht; exact ⟨_, _, _, rfl, by decide, rfl⟩⟩
theorem fl_Src_15 : fl_Ok "StreamTower$Source" 15 "StreamTower$Source" "startsPortion" "[Z" "StreamTower$Source" [2] 1 true (.array .boolean) := ⟨wd_39, by decide +kernel, Or.inl rfl, fun t ht => by obtain rfl := List.mem_singleton.mp ht; exact ⟨_, _, _, rfl, by decide, rfl⟩⟩
theorem fl_Src_19 : fl_Ok "StreamTower$Source" 19 "StreamTower$Source" "broken" "[Z" "StreamTower$Source" [2] 2 true (.array .boolean) := ⟨wd_40, by decide +kernel, Or.inl rfl, fun t ht => by obtain rfl := List.mem_singleton.mp ht; exact ⟨_, _, _, rfl, by decide, rfl⟩⟩
theorem md_Src_init : md_Ok y_Src_init (.code y_Src_init b_Src_init 1 none) 1 := ⟨wd_33, wd_3, ⟨by decide, by decide⟩, Or.inl ⟨_, _, rfl⟩⟩
theorem ml_Src_init : (parseMethodDescriptor y_Src_init.desc).map (fun d => d.parameters.length) = some 0 := by decide +kernel
theorem fl_Src_22 : fl_Ok "StreamTower$Source" 22 "StreamTower$Source" "count" "I" "StreamTower$Source" [2] 3 false (.int) := ⟨wd_41, by decide +kernel, Or.inl rfl, fun t ht => by obtain rfl := List.mem_singleton.mp ht; exact ⟨_, _, _, rfl, by decide, rfl⟩⟩
theorem md_Src_hasRoomFor : md_Ok y_Src_hasRoomFor (.code y_Src_hasRoomFor b_Src_hasRoomFor 2 (some .boolean)) 2 := ⟨wd_277, wd_3, ⟨by decide, by decide⟩, Or.inl ⟨_, _, rfl⟩⟩
theorem ml_Src_hasRoomFor : (parseMethodDescriptor y_Src_hasRoomFor.desc).map (fun d => d.parameters.length) = some 1 := by decide +kernel
theorem md_Src_append : md_Ok y_Src_append (.code y_Src_append b_Src_append 2 none) 2 := ⟨wd_296, wd_3, ⟨by decide, by decide⟩, Or.inl ⟨_, _, rfl⟩⟩
theorem ml_Src_append : (parseMethodDescriptor y_Src_append.desc).map (fun d => d.parameters.length) = some 1 := by decide +kernel
theorem md_Src_startPortion : md_Ok y_Src_startPortion (.code y_Src_startPortion b_Src_startPortion 1 none) 1 := ⟨wd_111, wd_3, ⟨by decide, by decide⟩, Or.inl ⟨_, _, rfl⟩⟩
theorem ml_Src_startPortion : (parseMethodDescriptor y_Src_startPortion.desc).map (fun d => d.parameters.length) = some 0 := by decide +kernel
theorem md_Src_mend : md_Ok y_Src_mend (.code y_Src_mend b_Src_mend 2 none) 2 := ⟨wd_119, wd_3, ⟨by decide, by decide⟩, Or.inl ⟨_, _, rfl⟩⟩
theorem ml_Src_mend : (parseMethodDescriptor y_Src_mend.desc).map (fun d => d.parameters.length) = some 0 := by decide +kernel
theorem md_Src_breakPlace : md_Ok y_Src_breakPlace (.code y_Src_breakPlace b_Src_breakPlace 2 (some .boolean)) 2 := ⟨wd_123, wd_3, ⟨by decide, by decide⟩, Or.inl ⟨_, _, rfl⟩⟩
theorem ml_Src_breakPlace : (parseMethodDescriptor y_Src_breakPlace.desc).map (fun d => d.parameters.length) = some 1 := by decide +kernel
theorem fl_Src_30 : fl_Ok "StreamTower$Source" 30 "StreamTower$Source" "taken" "I" "StreamTower$Source" [2] 4 false (.int) := ⟨wd_43, by decide +kernel, Or.inl rfl, fun t ht => by obtain rfl := List.mem_singleton.mp ht; exact ⟨_, _, _, rfl, by decide, rfl⟩⟩
theorem md_Src_ready : md_Ok y_Src_ready (.code y_Src_ready b_Src_ready 2 (some .int)) 2 := ⟨wd_145, wd_3, ⟨by decide, by decide⟩, Or.inl ⟨_, _, rfl⟩⟩
theorem ml_Src_ready : (parseMethodDescriptor y_Src_ready.desc).map (fun d => d.parameters.length) = some 0 := by decide +kernel
theorem md_Src_answer : md_Ok y_Src_answer (.code y_Src_answer b_Src_answer 5 (some .int)) 5 := ⟨wd_463, wd_3, ⟨by decide, by decide⟩, Or.inl ⟨_, _, rfl⟩⟩
theorem ml_Src_answer : (parseMethodDescriptor y_Src_answer.desc).map (fun d => d.parameters.length) = some 3 := by decide +kernel
theorem md_Src_state : md_Ok y_Src_state (.code y_Src_state b_Src_state 1 (some .int)) 1 := ⟨wd_165, wd_3, ⟨by decide, by decide⟩, Or.inl ⟨_, _, rfl⟩⟩
theorem ml_Src_state : (parseMethodDescriptor y_Src_state.desc).map (fun d => d.parameters.length) = some 0 := by decide +kernel
theorem md_Str_canBeMarked : md_Ok y_Str_canBeMarked (.code y_Str_canBeMarked b_Str_canBeMarked 1 (some .boolean)) 1 := ⟨wd_603, wd_2, ⟨by decide, by decide⟩, Or.inl ⟨_, _, rfl⟩⟩
theorem ml_Str_canBeMarked : (parseMethodDescriptor y_Str_canBeMarked.desc).map (fun d => d.parameters.length) = some 0 := by decide +kernel
theorem md_Str_hasMark : md_Ok y_Str_hasMark (.code y_Str_hasMark b_Str_hasMark 1 (some .boolean)) 1 := ⟨wd_667, wd_2, ⟨by decide, by decide⟩, Or.inl ⟨_, _, rfl⟩⟩
theorem ml_Str_hasMark : (parseMethodDescriptor y_Str_hasMark.desc).map (fun d => d.parameters.length) = some 0 := by decide +kernel
theorem md_Str_takeMark : md_Ok y_Str_takeMark (.code y_Str_takeMark b_Str_takeMark 2 none) 2 := ⟨wd_645, wd_2, ⟨by decide, by decide⟩, Or.inl ⟨_, _, rfl⟩⟩
theorem ml_Str_takeMark : (parseMethodDescriptor y_Str_takeMark.desc).map (fun d => d.parameters.length) = some 1 := by decide +kernel
theorem md_Str_goBack : md_Ok y_Str_goBack (.code y_Str_goBack b_Str_goBack 1 none) 1 := ⟨wd_694, wd_2, ⟨by decide, by decide⟩, Or.inl ⟨_, _, rfl⟩⟩
theorem ml_Str_goBack : (parseMethodDescriptor y_Str_goBack.desc).map (fun d => d.parameters.length) = some 0 := by decide +kernel
def f_Str_init (t0 : Nat) (h0 : Hs_t) : Rs_t := re_V h0
set_option maxRecDepth 100000 in
set_option maxHeartbeats 4000000 in
theorem c_Str_init {l : Launch} {s0 : State} {A0 : Array Value} {G : Gx_t} (hG : G_0 l s0 A0 G) (rm : Room) (hrm : rm_Ok 0 0 1 12 rm) (t0 : Nat) (h0 : Hs_t) (r : Outcome × Hs_t) (heq : f_Str_init t0 h0 = some r) : M_X G s0 l y_Str_init (.code y_Str_init b_Str_init 1 none) rm [.ref t0] h0 r := by
  refine M_X.of (by decide) hG (fun p e s m below meth c H hc hR => ?_)
  have hx := hc.x
  have hb := hc.b
  obtain ⟨hm1, hm2, hm3, hm4⟩ := id hrm
  have hLo : Lo_k s0 [] := fun _ hq => absurd hq List.not_mem_nil
  have hl := lv_entry ([.ref t0]) (n := 1) (Nat.le_of_ble_eq_true rfl)
  rw [lg_entry_eq]
  generalize (lg_sl ([.ref t0]) ++ List.replicate (1 - (lg_sl ([.ref t0])).length) Slot.unset).toArray = ls at hl ⊢
  have hl : lv_has ls 1 [(0, .ref t0)] := hl
  generalize hle : ([] : List Loc) = locs at hLo ⊢
  unfold f_Str_init at heq
  refine lv_aload_n hx hb d_Str_init_0 rfl (lv_at hl 0 rfl) ?_
  refine W.objInit hx hb hc.o (hc.w wd_37) (hc.w wd_27) (hc.w wd_28) rfl (by rw [hc.ml]; exact hl.1) rfl d_Str_init_1 (by omega) (by show 2 * 0 + 0 + 12 ≤ _; omega) ?_
  refine W.eq (g2 := F0 m 4 ls []) rfl ?_
  exact x_vret hc hR hLo ⟨by omega, by omega⟩ heq d_Str_init_4
def rm_Str_init : Room := { frames := 1, cells := 0, slots := 0, locals := 12 }
theorem rk_Str_init : rm_Ok 0 0 1 12 rm_Str_init := ⟨Nat.le_refl _, Nat.le_refl _, Nat.le_refl _, Nat.le_refl _⟩
def f_Src_init (t0 : Nat) (h0 : Hs_t) : Rs_t := bd_V (f_Str_init t0 h0) (fun h1 => (nw_I 120 120 h1).bind fun h2 => (pt_V [2] 0 h2 t0 (.ref h1.1)).bind fun h3 => (nw_Z 121 121 h3).bind fun h4 => (pt_V [2] 1 h4 t0 (.ref h3.1)).bind fun h5 => (nw_Z 121 121 h5).bind fun h6 => (pt_V [2] 2 h6 t0 (.ref h5.1)).bind fun h7 => re_V h7)
set_option maxRecDepth 100000 in
set_option maxHeartbeats 4000000 in
theorem c_Src_init {l : Launch} {s0 : State} {A0 : Array Value} {G : Gx_t} (hG : G_0 l s0 A0 G) (rm : Room) (hrm : rm_Ok 3 362 2 32 rm) (t0 : Nat) (h0 : Hs_t) (r : Outcome × Hs_t) (heq : f_Src_init t0 h0 = some r) : M_X G s0 l y_Src_init (.code y_Src_init b_Src_init 1 none) rm [.ref t0] h0 r := by
  refine M_X.of (by decide) hG (fun p e s m below meth c H hc hR => ?_)
  have hx := hc.x
  have hb := hc.b
  obtain ⟨hm1, hm2, hm3, hm4⟩ := id hrm
  have hLo : Lo_k s0 [] := fun _ hq => absurd hq List.not_mem_nil
  have hl := lv_entry ([.ref t0]) (n := 1) (Nat.le_of_ble_eq_true rfl)
  rw [lg_entry_eq]
  generalize (lg_sl ([.ref t0]) ++ List.replicate (1 - (lg_sl ([.ref t0])).length) Slot.unset).toArray = ls at hl ⊢
  have hl : lv_has ls 1 [(0, .ref t0)] := hl
  generalize hle : ([] : List Loc) = locs at hLo ⊢
  unfold f_Src_init at heq
  refine lv_aload_n hx hb d_Src_init_0 rfl (lv_at hl 0 rfl) ?_
  refine x_bV (mc := 0) (ms := 0) (st := []) hc hLo heq ⟨by omega, by omega⟩ (fun r9 h9 => x_runIN hc (c_Str_init hc.g rm_Str_init rk_Str_init _ _ _ h9) md_Str_init hR wd_34 wd_35 rfl ⟨_, rfl⟩ hl.1 ml_Str_init rfl (Nat.le_of_ble_eq_true rfl) d_Src_init_1 ⟨by show 1 + 1 ≤ _; omega, by show 8 + (1 + 11) + (12) ≤ _; omega⟩ ⟨by show 0 + 0 ≤ _; omega, by show 0 + 0 ≤ _; omega⟩) (fun h1 H locs hR hLo heq => ?_)
  refine lv_aload_n hx hb d_Src_init_4 rfl (lv_at hl 0 rfl) ?_
  refine lv_bipush (v := 120) hx hb d_Src_init_5 (by decide) ?_
  refine x_newI hc hR wd_55 (by decide) ⟨by omega, by omega⟩ heq d_Src_init_7 (fun h2 H hR heq => ?_)
  refine x_pV hc hR hLo fl_Src_9 (Or.inr ⟨rfl, rfl⟩) rfl rfl heq d_Src_init_9 (fun h3 H locs hR hLo heq => ?_)
  refine lv_aload_n hx hb d_Src_init_12 rfl (lv_at hl 0 rfl) ?_
  refine lv_bipush (v := 121) hx hb d_Src_init_13 (by decide) ?_
  refine x_newZ hc hR wd_56 (by decide) ⟨by omega, by omega⟩ heq d_Src_init_15 (fun h4 H hR heq => ?_)
  refine x_pV hc hR hLo fl_Src_15 (Or.inr ⟨rfl, rfl⟩) rfl rfl heq d_Src_init_17 (fun h5 H locs hR hLo heq => ?_)
  refine lv_aload_n hx hb d_Src_init_20 rfl (lv_at hl 0 rfl) ?_
  refine lv_bipush (v := 121) hx hb d_Src_init_21 (by decide) ?_
  refine x_newZ hc hR wd_56 (by decide) ⟨by omega, by omega⟩ heq d_Src_init_23 (fun h6 H hR heq => ?_)
  refine x_pV hc hR hLo fl_Src_19 (Or.inr ⟨rfl, rfl⟩) rfl rfl heq d_Src_init_25 (fun h7 H locs hR hLo heq => ?_)
  exact x_vret hc hR hLo ⟨by omega, by omega⟩ heq d_Src_init_28
def rm_Src_init : Room := { frames := 2, cells := 3, slots := 362, locals := 32 }
theorem rk_Src_init : rm_Ok 3 362 2 32 rm_Src_init := ⟨Nat.le_refl _, Nat.le_refl _, Nat.le_refl _, Nat.le_refl _⟩
def f_Src_hasRoomFor_b19 (sv0 : Int32) (h0 : Hs_t) : Rs_t := re_Z sv0 h0
def f_Src_hasRoomFor (t0 : Nat) (x1 : Int32) (h0 : Hs_t) : Rs_t := (fd_I [2] 3 h0 t0).bind fun v1 => (fd_A [2] 0 h0 t0).bind fun v2 => (ln_A h0 v2).bind fun v3 => if v3 < (v1 + x1) then (f_Src_hasRoomFor_b19 0 h0) else (f_Src_hasRoomFor_b19 1 h0)
set_option maxRecDepth 100000 in
set_option maxHeartbeats 4000000 in
theorem k_Src_hasRoomFor_b19 {p : Program} {l : Launch} {e : Env} {s : State} {m : MethodId} {args : Array Value} {below : List Frame} {meth : Method} {c : Code} {s0 : State} {A0 : Array Value} {G : Gx_t} {r : Outcome × Hs_t} {rm : Room} (hc : Cx_t p s m meth c s0 A0 l G y_Src_hasRoomFor b_Src_hasRoomFor 2 (some .boolean) []) (hrm : rm_Ok 0 0 0 0 rm) : ∀ (sv0 : Int32) (h0 : Hs_t) (H : Heap) (locs : List Loc) (ls : Array Slot), Rp_h G s0.heap h0 H → Lo_k s0 locs → lv_has ls 2 [] → f_Src_hasRoomFor_b19 sv0 h0 = some r → W p l e rm s m args below meth c H locs 0 0 (xq_MQ G s0 below r s rm.cells rm.slots) (F0 m 19 ls [.int sv0]) := by
  have hx := hc.x
  have hb := hc.b
  obtain ⟨hm1, hm2, hm3, hm4⟩ := id hrm
  intro sv0 h0 H locs ls hR hLo hl heq
  unfold f_Src_hasRoomFor_b19 at heq
  exact x_zret hc hR hLo ⟨by omega, by omega⟩ heq d_Src_hasRoomFor_19
set_option maxRecDepth 100000 in
set_option maxHeartbeats 4000000 in
theorem c_Src_hasRoomFor {l : Launch} {s0 : State} {A0 : Array Value} {G : Gx_t} (hG : G_0 l s0 A0 G) (rm : Room) (hrm : rm_Ok 0 0 0 0 rm) (t0 : Nat) (x1 : Int32) (h0 : Hs_t) (r : Outcome × Hs_t) (heq : f_Src_hasRoomFor t0 x1 h0 = some r) : M_X G s0 l y_Src_hasRoomFor (.code y_Src_hasRoomFor b_Src_hasRoomFor 2 (some .boolean)) rm [.ref t0, .int x1] h0 r := by
  refine M_X.of (by decide) hG (fun p e s m below meth c H hc hR => ?_)
  have hx := hc.x
  have hb := hc.b
  obtain ⟨hm1, hm2, hm3, hm4⟩ := id hrm
  have hLo : Lo_k s0 [] := fun _ hq => absurd hq List.not_mem_nil
  have hl := lv_entry ([.ref t0, .int x1]) (n := 2) (Nat.le_of_ble_eq_true rfl)
  rw [lg_entry_eq]
  generalize (lg_sl ([.ref t0, .int x1]) ++ List.replicate (2 - (lg_sl ([.ref t0, .int x1])).length) Slot.unset).toArray = ls at hl ⊢
  have hl : lv_has ls 2 [(0, .ref t0), (1, .int x1)] := hl
  generalize hle : ([] : List Loc) = locs at hLo ⊢
  unfold f_Src_hasRoomFor at heq
  refine lv_aload_n hx hb d_Src_hasRoomFor_0 rfl (lv_at hl 0 rfl) ?_
  refine x_gI hc hR fl_Src_22 heq d_Src_hasRoomFor_1 (fun v1 heq => ?_)
  refine lv_iload_n hx hb d_Src_hasRoomFor_4 rfl (lv_at hl 1 rfl) ?_
  refine lv_iadd hx hb d_Src_hasRoomFor_5 ?_
  refine lv_aload_n hx hb d_Src_hasRoomFor_6 rfl (lv_at hl 0 rfl) ?_
  refine x_gA hc hR fl_Src_9 heq d_Src_hasRoomFor_7 (fun v2 heq => ?_)
  refine x_len hc hR heq d_Src_hasRoomFor_10 (fun v3 heq => ?_)
  refine lv_icmp_gt (tgt := 18) hx hb d_Src_hasRoomFor_11 rfl (fun hq => ?_) (fun hq => ?_)
  · rw [if_pos hq] at heq
    refine lv_iconst (v := 0) hx hb d_Src_hasRoomFor_18 (by decide) ?_
    refine W.widen (k := 0) (n := 0) (by omega) (by omega) ?_
    exact k_Src_hasRoomFor_b19 hc hrm 0 h0 H locs ls hR hLo (lv_sub hl [] rfl) heq
  · rw [if_neg hq] at heq
    refine lv_iconst (v := 1) hx hb d_Src_hasRoomFor_14 (by decide) ?_
    refine lv_goto (tgt := 19) hx hb d_Src_hasRoomFor_15 rfl ?_
    refine W.widen (k := 0) (n := 0) (by omega) (by omega) ?_
    exact k_Src_hasRoomFor_b19 hc hrm 1 h0 H locs ls hR hLo (lv_sub hl [] rfl) heq
def rm_Src_hasRoomFor : Room := { frames := 0, cells := 0, slots := 0, locals := 0 }
theorem rk_Src_hasRoomFor : rm_Ok 0 0 0 0 rm_Src_hasRoomFor := ⟨Nat.le_refl _, Nat.le_refl _, Nat.le_refl _, Nat.le_refl _⟩
def f_Src_append_b28 (h0 : Hs_t) : Rs_t := re_V h0
def f_Src_append (t0 : Nat) (x1 : Int32) (h0 : Hs_t) : Rs_t := (ck_T [2] h0 t0).bind fun _ => bd_I (f_Src_hasRoomFor t0 1 h0) (fun v1 h1 => if v1 = 0 then (f_Src_append_b28 h1) else ((fd_A [2] 0 h1 t0).bind fun v2 => (fd_I [2] 3 h1 t0).bind fun v3 => (as_I h1 v2 v3 x1).bind fun h2 => (fd_I [2] 3 h2 t0).bind fun v4 => (pt_V [2] 3 h2 t0 (.int (v4 + 1))).bind fun h3 => f_Src_append_b28 h3))
set_option maxRecDepth 100000 in
set_option maxHeartbeats 4000000 in
theorem k_Src_append_b28 {p : Program} {l : Launch} {e : Env} {s : State} {m : MethodId} {args : Array Value} {below : List Frame} {meth : Method} {c : Code} {s0 : State} {A0 : Array Value} {G : Gx_t} {r : Outcome × Hs_t} {rm : Room} (hc : Cx_t p s m meth c s0 A0 l G y_Src_append b_Src_append 2 none []) (hrm : rm_Ok 0 0 1 21 rm) : ∀  (h0 : Hs_t) (H : Heap) (locs : List Loc) (ls : Array Slot), Rp_h G s0.heap h0 H → Lo_k s0 locs → lv_has ls 2 [] → f_Src_append_b28  h0 = some r → W p l e rm s m args below meth c H locs 0 0 (xq_MQ G s0 below r s rm.cells rm.slots) (F0 m 28 ls []) := by
  have hx := hc.x
  have hb := hc.b
  obtain ⟨hm1, hm2, hm3, hm4⟩ := id hrm
  intro  h0 H locs ls hR hLo hl heq
  unfold f_Src_append_b28 at heq
  exact x_vret hc hR hLo ⟨by omega, by omega⟩ heq d_Src_append_28
set_option maxRecDepth 100000 in
set_option maxHeartbeats 4000000 in
theorem c_Src_append {l : Launch} {s0 : State} {A0 : Array Value} {G : Gx_t} (hG : G_0 l s0 A0 G) (rm : Room) (hrm : rm_Ok 0 0 1 21 rm) (t0 : Nat) (x1 : Int32) (h0 : Hs_t) (r : Outcome × Hs_t) (heq : f_Src_append t0 x1 h0 = some r) : M_X G s0 l y_Src_append (.code y_Src_append b_Src_append 2 none) rm [.ref t0, .int x1] h0 r := by
  refine M_X.of (by decide) hG (fun p e s m below meth c H hc hR => ?_)
  have hx := hc.x
  have hb := hc.b
  obtain ⟨hm1, hm2, hm3, hm4⟩ := id hrm
  have hLo : Lo_k s0 [] := fun _ hq => absurd hq List.not_mem_nil
  have hl := lv_entry ([.ref t0, .int x1]) (n := 2) (Nat.le_of_ble_eq_true rfl)
  rw [lg_entry_eq]
  generalize (lg_sl ([.ref t0, .int x1]) ++ List.replicate (2 - (lg_sl ([.ref t0, .int x1])).length) Slot.unset).toArray = ls at hl ⊢
  have hl : lv_has ls 2 [(0, .ref t0), (1, .int x1)] := hl
  generalize hle : ([] : List Loc) = locs at hLo ⊢
  unfold f_Src_append at heq
  refine lv_aload_n hx hb d_Src_append_0 rfl (lv_at hl 0 rfl) ?_
  refine lv_iconst (v := 1) hx hb d_Src_append_1 (by decide) ?_
  refine x_ck heq (fun tt fs ha ht heq => ?_)
  obtain rfl : tt = 2 := by simpa using ht
  refine x_bI (mc := 0) (ms := 0) (st := []) hc hLo heq ⟨by omega, by omega⟩ (fun r9 h9 => x_runV hc (c_Src_hasRoomFor hc.g rm_Src_hasRoomFor rk_Src_hasRoomFor _ _ _ _ h9) md_Src_hasRoomFor hR ha rfl wd_297 wd_275 wd_276 hl.1 ml_Src_hasRoomFor rfl (Nat.le_of_ble_eq_true rfl) d_Src_append_2 ⟨by show 0 + 1 ≤ _; omega, by show 8 + (2 + 11) + (0) ≤ _; omega⟩ ⟨by show 0 + 0 ≤ _; omega, by show 0 + 0 ≤ _; omega⟩) (fun v1 h1 H locs hR hLo heq => ?_)
  refine lv_if_eq (tgt := 28) hx hb d_Src_append_5 rfl (fun hq => ?_) (fun hq => ?_)
  · rw [if_pos hq] at heq
    refine W.widen (k := 0) (n := 0) (by omega) (by omega) ?_
    exact k_Src_append_b28 hc hrm h1 H locs ls hR hLo (lv_sub hl [] rfl) heq
  · rw [if_neg hq] at heq
    refine lv_aload_n hx hb d_Src_append_8 rfl (lv_at hl 0 rfl) ?_
    refine x_gA hc hR fl_Src_9 heq d_Src_append_9 (fun v2 heq => ?_)
    refine lv_aload_n hx hb d_Src_append_12 rfl (lv_at hl 0 rfl) ?_
    refine x_gI hc hR fl_Src_22 heq d_Src_append_13 (fun v3 heq => ?_)
    refine lv_iload_n hx hb d_Src_append_16 rfl (lv_at hl 1 rfl) ?_
    refine x_sI hc hR hLo heq d_Src_append_17 (fun h2 H locs hR hLo heq => ?_)
    refine lv_aload_n hx hb d_Src_append_18 rfl (lv_at hl 0 rfl) ?_
    refine lv_dup hx hb d_Src_append_19 rfl ?_
    refine x_gI hc hR fl_Src_22 heq d_Src_append_20 (fun v4 heq => ?_)
    refine lv_iconst (v := 1) hx hb d_Src_append_23 (by decide) ?_
    refine lv_iadd hx hb d_Src_append_24 ?_
    refine x_pV hc hR hLo fl_Src_22 (Or.inl rfl) rfl rfl heq d_Src_append_25 (fun h3 H locs hR hLo heq => ?_)
    refine W.widen (k := 0) (n := 0) (by omega) (by omega) ?_
    exact k_Src_append_b28 hc hrm h3 H locs ls hR hLo (lv_sub hl [] rfl) heq
def rm_Src_append : Room := { frames := 1, cells := 0, slots := 0, locals := 21 }
theorem rk_Src_append : rm_Ok 0 0 1 21 rm_Src_append := ⟨Nat.le_refl _, Nat.le_refl _, Nat.le_refl _, Nat.le_refl _⟩
def f_Src_startPortion (t0 : Nat) (h0 : Hs_t) : Rs_t := (fd_A [2] 1 h0 t0).bind fun v1 => (fd_I [2] 3 h0 t0).bind fun v2 => (as_Z h0 v1 v2 1).bind fun h1 => re_V h1
set_option maxRecDepth 100000 in
set_option maxHeartbeats 4000000 in
theorem c_Src_startPortion {l : Launch} {s0 : State} {A0 : Array Value} {G : Gx_t} (hG : G_0 l s0 A0 G) (rm : Room) (hrm : rm_Ok 0 0 0 0 rm) (t0 : Nat) (h0 : Hs_t) (r : Outcome × Hs_t) (heq : f_Src_startPortion t0 h0 = some r) : M_X G s0 l y_Src_startPortion (.code y_Src_startPortion b_Src_startPortion 1 none) rm [.ref t0] h0 r := by
  refine M_X.of (by decide) hG (fun p e s m below meth c H hc hR => ?_)
  have hx := hc.x
  have hb := hc.b
  obtain ⟨hm1, hm2, hm3, hm4⟩ := id hrm
  have hLo : Lo_k s0 [] := fun _ hq => absurd hq List.not_mem_nil
  have hl := lv_entry ([.ref t0]) (n := 1) (Nat.le_of_ble_eq_true rfl)
  rw [lg_entry_eq]
  generalize (lg_sl ([.ref t0]) ++ List.replicate (1 - (lg_sl ([.ref t0])).length) Slot.unset).toArray = ls at hl ⊢
  have hl : lv_has ls 1 [(0, .ref t0)] := hl
  generalize hle : ([] : List Loc) = locs at hLo ⊢
  unfold f_Src_startPortion at heq
  refine lv_aload_n hx hb d_Src_startPortion_0 rfl (lv_at hl 0 rfl) ?_
  refine x_gA hc hR fl_Src_15 heq d_Src_startPortion_1 (fun v1 heq => ?_)
  refine lv_aload_n hx hb d_Src_startPortion_4 rfl (lv_at hl 0 rfl) ?_
  refine x_gI hc hR fl_Src_22 heq d_Src_startPortion_5 (fun v2 heq => ?_)
  refine lv_iconst (v := 1) hx hb d_Src_startPortion_8 (by decide) ?_
  refine x_sZ hc hR hLo heq d_Src_startPortion_9 (fun h1 H locs hR hLo heq => ?_)
  exact x_vret hc hR hLo ⟨by omega, by omega⟩ heq d_Src_startPortion_10
def rm_Src_startPortion : Room := { frames := 0, cells := 0, slots := 0, locals := 0 }
theorem rk_Src_startPortion : rm_Ok 0 0 0 0 rm_Src_startPortion := ⟨Nat.le_refl _, Nat.le_refl _, Nat.le_refl _, Nat.le_refl _⟩
def f_Src_mend_b2 : Nat → Nat → Int32 → Hs_t → Rs_t
  | 0, _, _, _ => none
  | n + 1, t0, x1, h0 => (fd_A [2] 2 h0 t0).bind fun v1 => (ln_A h0 v1).bind fun v2 => if v2 ≤ x1 then (re_V h0) else ((fd_A [2] 2 h0 t0).bind fun v3 => (as_Z h0 v3 x1 0).bind fun h1 => (f_Src_mend_b2 n) t0 (x1 + 1) h1)
def f_Src_mend (t0 : Nat) (h0 : Hs_t) : Rs_t := f_Src_mend_b2 fu_N t0 0 h0
set_option maxRecDepth 100000 in
set_option maxHeartbeats 4000000 in
theorem k_Src_mend_b2 {p : Program} {l : Launch} {e : Env} {s : State} {m : MethodId} {args : Array Value} {below : List Frame} {meth : Method} {c : Code} {s0 : State} {A0 : Array Value} {G : Gx_t} {r : Outcome × Hs_t} {rm : Room} (hc : Cx_t p s m meth c s0 A0 l G y_Src_mend b_Src_mend 2 none []) (hrm : rm_Ok 0 0 0 0 rm) : ∀ (n : Nat) (t0 : Nat) (x1 : Int32) (h0 : Hs_t) (H : Heap) (locs : List Loc) (ls : Array Slot), Rp_h G s0.heap h0 H → Lo_k s0 locs → lv_has ls 2 [(0, .ref t0), (1, .int x1)] → f_Src_mend_b2 n t0 x1 h0 = some r → W p l e rm s m args below meth c H locs 0 0 (xq_MQ G s0 below r s rm.cells rm.slots) (F0 m 2 ls []) := by
  have hx := hc.x
  have hb := hc.b
  obtain ⟨hm1, hm2, hm3, hm4⟩ := id hrm
  intro n
  induction n with
  | zero =>
    intro t0 x1 h0 H locs ls hR hLo hl heq
    unfold f_Src_mend_b2 at heq
    cases heq
  | succ n hr2 =>
    intro t0 x1 h0 H locs ls hR hLo hl heq
    unfold f_Src_mend_b2 at heq
    refine lv_iload_n hx hb d_Src_mend_2 rfl (lv_at hl 1 rfl) ?_
    refine lv_aload_n hx hb d_Src_mend_3 rfl (lv_at hl 0 rfl) ?_
    refine x_gA hc hR fl_Src_19 heq d_Src_mend_4 (fun v1 heq => ?_)
    refine x_len hc hR heq d_Src_mend_7 (fun v2 heq => ?_)
    refine lv_icmp_ge (tgt := 24) hx hb d_Src_mend_8 rfl (fun hq => ?_) (fun hq => ?_)
    · rw [if_pos hq] at heq
      exact x_vret hc hR hLo ⟨by omega, by omega⟩ heq d_Src_mend_24
    · rw [if_neg hq] at heq
      refine lv_aload_n hx hb d_Src_mend_11 rfl (lv_at hl 0 rfl) ?_
      refine x_gA hc hR fl_Src_19 heq d_Src_mend_12 (fun v3 heq => ?_)
      refine lv_iload_n hx hb d_Src_mend_15 rfl (lv_at hl 1 rfl) ?_
      refine lv_iconst (v := 0) hx hb d_Src_mend_16 (by decide) ?_
      refine x_sZ hc hR hLo heq d_Src_mend_17 (fun h1 H locs hR hLo heq => ?_)
      refine lv_iinc (k := 1) (v := (x1 + 1)) (lv' := [(1, .int (x1 + 1)), (0, .ref t0)]) hx hb d_Src_mend_18 hl rfl rfl (by decide) rfl (fun ls hl => ?_)
      refine lv_goto (tgt := 2) hx hb d_Src_mend_21 rfl ?_
      refine W.widen (k := 0) (n := 0) (by omega) (by omega) ?_
      exact hr2 t0 (x1 + 1) h1 H locs ls hR hLo (lv_sub hl [1, 0] rfl) heq
set_option maxRecDepth 100000 in
set_option maxHeartbeats 4000000 in
theorem c_Src_mend {l : Launch} {s0 : State} {A0 : Array Value} {G : Gx_t} (hG : G_0 l s0 A0 G) (rm : Room) (hrm : rm_Ok 0 0 0 0 rm) (t0 : Nat) (h0 : Hs_t) (r : Outcome × Hs_t) (heq : f_Src_mend t0 h0 = some r) : M_X G s0 l y_Src_mend (.code y_Src_mend b_Src_mend 2 none) rm [.ref t0] h0 r := by
  refine M_X.of (by decide) hG (fun p e s m below meth c H hc hR => ?_)
  have hx := hc.x
  have hb := hc.b
  obtain ⟨hm1, hm2, hm3, hm4⟩ := id hrm
  have hLo : Lo_k s0 [] := fun _ hq => absurd hq List.not_mem_nil
  have hl := lv_entry ([.ref t0]) (n := 2) (Nat.le_of_ble_eq_true rfl)
  rw [lg_entry_eq]
  generalize (lg_sl ([.ref t0]) ++ List.replicate (2 - (lg_sl ([.ref t0])).length) Slot.unset).toArray = ls at hl ⊢
  have hl : lv_has ls 2 [(0, .ref t0)] := hl
  generalize hle : ([] : List Loc) = locs at hLo ⊢
  unfold f_Src_mend at heq
  refine lv_iconst (v := 0) hx hb d_Src_mend_0 (by decide) ?_
  refine lv_istore_n (lv' := [(1, .int 0), (0, .ref t0)]) hx hb d_Src_mend_1 rfl hl (by decide) rfl (fun ls hl => ?_)
  refine W.widen (k := 0) (n := 0) (by omega) (by omega) ?_
  exact k_Src_mend_b2 hc hrm fu_N t0 0 h0 H locs ls hR hLo (lv_sub hl [1, 0] rfl) heq
def rm_Src_mend : Room := { frames := 0, cells := 0, slots := 0, locals := 0 }
theorem rk_Src_mend : rm_Ok 0 0 0 0 rm_Src_mend := ⟨Nat.le_refl _, Nat.le_refl _, Nat.le_refl _, Nat.le_refl _⟩
def f_Src_breakPlace_b13 (h0 : Hs_t) : Rs_t := re_Z 0 h0
def f_Src_breakPlace (t0 : Nat) (x1 : Int32) (h0 : Hs_t) : Rs_t := if x1 < 0 then (f_Src_breakPlace_b13 h0) else ((fd_A [2] 2 h0 t0).bind fun v1 => (ln_A h0 v1).bind fun v2 => if x1 < v2 then ((fd_A [2] 2 h0 t0).bind fun v3 => (as_Z h0 v3 x1 1).bind fun h1 => re_Z 1 h1) else (f_Src_breakPlace_b13 h0))
set_option maxRecDepth 100000 in
set_option maxHeartbeats 4000000 in
theorem k_Src_breakPlace_b13 {p : Program} {l : Launch} {e : Env} {s : State} {m : MethodId} {args : Array Value} {below : List Frame} {meth : Method} {c : Code} {s0 : State} {A0 : Array Value} {G : Gx_t} {r : Outcome × Hs_t} {rm : Room} (hc : Cx_t p s m meth c s0 A0 l G y_Src_breakPlace b_Src_breakPlace 2 (some .boolean) []) (hrm : rm_Ok 0 0 0 0 rm) : ∀  (h0 : Hs_t) (H : Heap) (locs : List Loc) (ls : Array Slot), Rp_h G s0.heap h0 H → Lo_k s0 locs → lv_has ls 2 [] → f_Src_breakPlace_b13  h0 = some r → W p l e rm s m args below meth c H locs 0 0 (xq_MQ G s0 below r s rm.cells rm.slots) (F0 m 13 ls []) := by
  have hx := hc.x
  have hb := hc.b
  obtain ⟨hm1, hm2, hm3, hm4⟩ := id hrm
  intro  h0 H locs ls hR hLo hl heq
  unfold f_Src_breakPlace_b13 at heq
  refine lv_iconst (v := 0) hx hb d_Src_breakPlace_13 (by decide) ?_
  exact x_zret hc hR hLo ⟨by omega, by omega⟩ heq d_Src_breakPlace_14
set_option maxRecDepth 100000 in
set_option maxHeartbeats 4000000 in
theorem c_Src_breakPlace {l : Launch} {s0 : State} {A0 : Array Value} {G : Gx_t} (hG : G_0 l s0 A0 G) (rm : Room) (hrm : rm_Ok 0 0 0 0 rm) (t0 : Nat) (x1 : Int32) (h0 : Hs_t) (r : Outcome × Hs_t) (heq : f_Src_breakPlace t0 x1 h0 = some r) : M_X G s0 l y_Src_breakPlace (.code y_Src_breakPlace b_Src_breakPlace 2 (some .boolean)) rm [.ref t0, .int x1] h0 r := by
  refine M_X.of (by decide) hG (fun p e s m below meth c H hc hR => ?_)
  have hx := hc.x
  have hb := hc.b
  obtain ⟨hm1, hm2, hm3, hm4⟩ := id hrm
  have hLo : Lo_k s0 [] := fun _ hq => absurd hq List.not_mem_nil
  have hl := lv_entry ([.ref t0, .int x1]) (n := 2) (Nat.le_of_ble_eq_true rfl)
  rw [lg_entry_eq]
  generalize (lg_sl ([.ref t0, .int x1]) ++ List.replicate (2 - (lg_sl ([.ref t0, .int x1])).length) Slot.unset).toArray = ls at hl ⊢
  have hl : lv_has ls 2 [(0, .ref t0), (1, .int x1)] := hl
  generalize hle : ([] : List Loc) = locs at hLo ⊢
  unfold f_Src_breakPlace at heq
  refine lv_iload_n hx hb d_Src_breakPlace_0 rfl (lv_at hl 1 rfl) ?_
  refine lv_if_lt (tgt := 13) hx hb d_Src_breakPlace_1 rfl (fun hq => ?_) (fun hq => ?_)
  · rw [if_pos hq] at heq
    refine W.widen (k := 0) (n := 0) (by omega) (by omega) ?_
    exact k_Src_breakPlace_b13 hc hrm h0 H locs ls hR hLo (lv_sub hl [] rfl) heq
  · rw [if_neg hq] at heq
    refine lv_iload_n hx hb d_Src_breakPlace_4 rfl (lv_at hl 1 rfl) ?_
    refine lv_aload_n hx hb d_Src_breakPlace_5 rfl (lv_at hl 0 rfl) ?_
    refine x_gA hc hR fl_Src_19 heq d_Src_breakPlace_6 (fun v1 heq => ?_)
    refine x_len hc hR heq d_Src_breakPlace_9 (fun v2 heq => ?_)
    refine lv_icmp_lt (tgt := 15) hx hb d_Src_breakPlace_10 rfl (fun hq => ?_) (fun hq => ?_)
    · rw [if_pos hq] at heq
      refine lv_aload_n hx hb d_Src_breakPlace_15 rfl (lv_at hl 0 rfl) ?_
      refine x_gA hc hR fl_Src_19 heq d_Src_breakPlace_16 (fun v3 heq => ?_)
      refine lv_iload_n hx hb d_Src_breakPlace_19 rfl (lv_at hl 1 rfl) ?_
      refine lv_iconst (v := 1) hx hb d_Src_breakPlace_20 (by decide) ?_
      refine x_sZ hc hR hLo heq d_Src_breakPlace_21 (fun h1 H locs hR hLo heq => ?_)
      refine lv_iconst (v := 1) hx hb d_Src_breakPlace_22 (by decide) ?_
      exact x_zret hc hR hLo ⟨by omega, by omega⟩ heq d_Src_breakPlace_23
    · rw [if_neg hq] at heq
      refine W.widen (k := 0) (n := 0) (by omega) (by omega) ?_
      exact k_Src_breakPlace_b13 hc hrm h0 H locs ls hR hLo (lv_sub hl [] rfl) heq
def rm_Src_breakPlace : Room := { frames := 0, cells := 0, slots := 0, locals := 0 }
theorem rk_Src_breakPlace : rm_Ok 0 0 0 0 rm_Src_breakPlace := ⟨Nat.le_refl _, Nat.le_refl _, Nat.le_refl _, Nat.le_refl _⟩
def f_Src_ready_b36 (t0 : Nat) (x1 : Int32) (h0 : Hs_t) : Rs_t := (fd_I [2] 4 h0 t0).bind fun v6 => re_I (x1 - v6) h0
def f_Src_ready_b30 (r5 : Nat → Int32 → Hs_t → Rs_t) (t0 : Nat) (x1 : Int32) (h0 : Hs_t) : Rs_t := r5 t0 (x1 + 1) h0
def f_Src_ready_b5 : Nat → Nat → Int32 → Hs_t → Rs_t
  | 0, _, _, _ => none
  | n + 1, t0, x1, h0 => (fd_I [2] 3 h0 t0).bind fun v2 => if v2 ≤ x1 then (f_Src_ready_b36 t0 x1 h0) else ((fd_I [2] 4 h0 t0).bind fun v3 => if x1 = v3 then (f_Src_ready_b30 (f_Src_ready_b5 n) t0 x1 h0) else ((fd_A [2] 1 h0 t0).bind fun v4 => (ar_Z h0 v4 x1).bind fun v5 => if v5 = 0 then (f_Src_ready_b30 (f_Src_ready_b5 n) t0 x1 h0) else (f_Src_ready_b36 t0 x1 h0)))
def f_Src_ready (t0 : Nat) (h0 : Hs_t) : Rs_t := (fd_I [2] 4 h0 t0).bind fun v1 => f_Src_ready_b5 fu_N t0 v1 h0
set_option maxRecDepth 100000 in
set_option maxHeartbeats 4000000 in
theorem k_Src_ready_b36 {p : Program} {l : Launch} {e : Env} {s : State} {m : MethodId} {args : Array Value} {below : List Frame} {meth : Method} {c : Code} {s0 : State} {A0 : Array Value} {G : Gx_t} {r : Outcome × Hs_t} {rm : Room} (hc : Cx_t p s m meth c s0 A0 l G y_Src_ready b_Src_ready 2 (some .int) []) (hrm : rm_Ok 0 0 0 0 rm) : ∀ (t0 : Nat) (x1 : Int32) (h0 : Hs_t) (H : Heap) (locs : List Loc) (ls : Array Slot), Rp_h G s0.heap h0 H → Lo_k s0 locs → lv_has ls 2 [(0, .ref t0), (1, .int x1)] → f_Src_ready_b36 t0 x1 h0 = some r → W p l e rm s m args below meth c H locs 0 0 (xq_MQ G s0 below r s rm.cells rm.slots) (F0 m 36 ls []) := by
  have hx := hc.x
  have hb := hc.b
  obtain ⟨hm1, hm2, hm3, hm4⟩ := id hrm
  intro t0 x1 h0 H locs ls hR hLo hl heq
  unfold f_Src_ready_b36 at heq
  refine lv_iload_n hx hb d_Src_ready_36 rfl (lv_at hl 1 rfl) ?_
  refine lv_aload_n hx hb d_Src_ready_37 rfl (lv_at hl 0 rfl) ?_
  refine x_gI hc hR fl_Src_30 heq d_Src_ready_38 (fun v6 heq => ?_)
  refine lv_isub hx hb d_Src_ready_41 ?_
  exact x_iret hc hR hLo ⟨by omega, by omega⟩ heq d_Src_ready_42
set_option maxRecDepth 100000 in
set_option maxHeartbeats 4000000 in
theorem k_Src_ready_b30 {p : Program} {l : Launch} {e : Env} {s : State} {m : MethodId} {args : Array Value} {below : List Frame} {meth : Method} {c : Code} {s0 : State} {A0 : Array Value} {G : Gx_t} {r : Outcome × Hs_t} {rm : Room} (r5 : Nat → Int32 → Hs_t → Rs_t) (hc : Cx_t p s m meth c s0 A0 l G y_Src_ready b_Src_ready 2 (some .int) []) (hrm : rm_Ok 0 0 0 0 rm) (hr5 : ∀ (t0 : Nat) (x1 : Int32) (h0 : Hs_t) (H : Heap) (locs : List Loc) (ls : Array Slot), Rp_h G s0.heap h0 H → Lo_k s0 locs → lv_has ls 2 [(0, .ref t0), (1, .int x1)] → r5 t0 x1 h0 = some r → W p l e rm s m args below meth c H locs 0 0 (xq_MQ G s0 below r s rm.cells rm.slots) (F0 m 5 ls [])) : ∀ (t0 : Nat) (x1 : Int32) (h0 : Hs_t) (H : Heap) (locs : List Loc) (ls : Array Slot), Rp_h G s0.heap h0 H → Lo_k s0 locs → lv_has ls 2 [(0, .ref t0), (1, .int x1)] → f_Src_ready_b30 r5 t0 x1 h0 = some r → W p l e rm s m args below meth c H locs 0 0 (xq_MQ G s0 below r s rm.cells rm.slots) (F0 m 30 ls []) := by
  have hx := hc.x
  have hb := hc.b
  obtain ⟨hm1, hm2, hm3, hm4⟩ := id hrm
  intro t0 x1 h0 H locs ls hR hLo hl heq
  unfold f_Src_ready_b30 at heq
  refine lv_iinc (k := 1) (v := (x1 + 1)) (lv' := [(1, .int (x1 + 1)), (0, .ref t0)]) hx hb d_Src_ready_30 hl rfl rfl (by decide) rfl (fun ls hl => ?_)
  refine lv_goto (tgt := 5) hx hb d_Src_ready_33 rfl ?_
  refine W.widen (k := 0) (n := 0) (by omega) (by omega) ?_
  exact hr5 t0 (x1 + 1) h0 H locs ls hR hLo (lv_sub hl [1, 0] rfl) heq
set_option maxRecDepth 100000 in
set_option maxHeartbeats 4000000 in
theorem k_Src_ready_b5 {p : Program} {l : Launch} {e : Env} {s : State} {m : MethodId} {args : Array Value} {below : List Frame} {meth : Method} {c : Code} {s0 : State} {A0 : Array Value} {G : Gx_t} {r : Outcome × Hs_t} {rm : Room} (hc : Cx_t p s m meth c s0 A0 l G y_Src_ready b_Src_ready 2 (some .int) []) (hrm : rm_Ok 0 0 0 0 rm) : ∀ (n : Nat) (t0 : Nat) (x1 : Int32) (h0 : Hs_t) (H : Heap) (locs : List Loc) (ls : Array Slot), Rp_h G s0.heap h0 H → Lo_k s0 locs → lv_has ls 2 [(0, .ref t0), (1, .int x1)] → f_Src_ready_b5 n t0 x1 h0 = some r → W p l e rm s m args below meth c H locs 0 0 (xq_MQ G s0 below r s rm.cells rm.slots) (F0 m 5 ls []) := by
  have hx := hc.x
  have hb := hc.b
  obtain ⟨hm1, hm2, hm3, hm4⟩ := id hrm
  intro n
  induction n with
  | zero =>
    intro t0 x1 h0 H locs ls hR hLo hl heq
    unfold f_Src_ready_b5 at heq
    cases heq
  | succ n hr5 =>
    intro t0 x1 h0 H locs ls hR hLo hl heq
    unfold f_Src_ready_b5 at heq
    refine lv_iload_n hx hb d_Src_ready_5 rfl (lv_at hl 1 rfl) ?_
    refine lv_aload_n hx hb d_Src_ready_6 rfl (lv_at hl 0 rfl) ?_
    refine x_gI hc hR fl_Src_22 heq d_Src_ready_7 (fun v2 heq => ?_)
    refine lv_icmp_ge (tgt := 36) hx hb d_Src_ready_10 rfl (fun hq => ?_) (fun hq => ?_)
    · rw [if_pos hq] at heq
      refine W.widen (k := 0) (n := 0) (by omega) (by omega) ?_
      exact k_Src_ready_b36 hc hrm t0 x1 h0 H locs ls hR hLo (lv_sub hl [0, 1] rfl) heq
    · rw [if_neg hq] at heq
      refine lv_iload_n hx hb d_Src_ready_13 rfl (lv_at hl 1 rfl) ?_
      refine lv_aload_n hx hb d_Src_ready_14 rfl (lv_at hl 0 rfl) ?_
      refine x_gI hc hR fl_Src_30 heq d_Src_ready_15 (fun v3 heq => ?_)
      refine lv_icmp_eq (tgt := 30) hx hb d_Src_ready_18 rfl (fun hq => ?_) (fun hq => ?_)
      · rw [if_pos hq] at heq
        refine W.widen (k := 0) (n := 0) (by omega) (by omega) ?_
        exact k_Src_ready_b30 _ hc hrm hr5 t0 x1 h0 H locs ls hR hLo (lv_sub hl [0, 1] rfl) heq
      · rw [if_neg hq] at heq
        refine lv_aload_n hx hb d_Src_ready_21 rfl (lv_at hl 0 rfl) ?_
        refine x_gA hc hR fl_Src_15 heq d_Src_ready_22 (fun v4 heq => ?_)
        refine lv_iload_n hx hb d_Src_ready_25 rfl (lv_at hl 1 rfl) ?_
        refine x_aZ hc hR heq d_Src_ready_26 (fun v5 heq => ?_)
        refine lv_if_ne (tgt := 36) hx hb d_Src_ready_27 rfl (fun hq => ?_) (fun hq => ?_)
        · rw [if_neg hq] at heq
          refine W.widen (k := 0) (n := 0) (by omega) (by omega) ?_
          exact k_Src_ready_b36 hc hrm t0 x1 h0 H locs ls hR hLo (lv_sub hl [0, 1] rfl) heq
        · rw [if_pos hq] at heq
          refine W.widen (k := 0) (n := 0) (by omega) (by omega) ?_
          exact k_Src_ready_b30 _ hc hrm hr5 t0 x1 h0 H locs ls hR hLo (lv_sub hl [0, 1] rfl) heq
set_option maxRecDepth 100000 in
set_option maxHeartbeats 4000000 in
theorem c_Src_ready {l : Launch} {s0 : State} {A0 : Array Value} {G : Gx_t} (hG : G_0 l s0 A0 G) (rm : Room) (hrm : rm_Ok 0 0 0 0 rm) (t0 : Nat) (h0 : Hs_t) (r : Outcome × Hs_t) (heq : f_Src_ready t0 h0 = some r) : M_X G s0 l y_Src_ready (.code y_Src_ready b_Src_ready 2 (some .int)) rm [.ref t0] h0 r := by
  refine M_X.of (by decide) hG (fun p e s m below meth c H hc hR => ?_)
  have hx := hc.x
  have hb := hc.b
  obtain ⟨hm1, hm2, hm3, hm4⟩ := id hrm
  have hLo : Lo_k s0 [] := fun _ hq => absurd hq List.not_mem_nil
  have hl := lv_entry ([.ref t0]) (n := 2) (Nat.le_of_ble_eq_true rfl)
  rw [lg_entry_eq]
  generalize (lg_sl ([.ref t0]) ++ List.replicate (2 - (lg_sl ([.ref t0])).length) Slot.unset).toArray = ls at hl ⊢
  have hl : lv_has ls 2 [(0, .ref t0)] := hl
  generalize hle : ([] : List Loc) = locs at hLo ⊢
  unfold f_Src_ready at heq
  refine lv_aload_n hx hb d_Src_ready_0 rfl (lv_at hl 0 rfl) ?_
  refine x_gI hc hR fl_Src_30 heq d_Src_ready_1 (fun v1 heq => ?_)
  refine lv_istore_n (lv' := [(1, .int v1), (0, .ref t0)]) hx hb d_Src_ready_4 rfl hl (by decide) rfl (fun ls hl => ?_)
  refine W.widen (k := 0) (n := 0) (by omega) (by omega) ?_
  exact k_Src_ready_b5 hc hrm fu_N t0 v1 h0 H locs ls hR hLo (lv_sub hl [1, 0] rfl) heq
def rm_Src_ready : Room := { frames := 0, cells := 0, slots := 0, locals := 0 }
theorem rk_Src_ready : rm_Ok 0 0 0 0 rm_Src_ready := ⟨Nat.le_refl _, Nat.le_refl _, Nat.le_refl _, Nat.le_refl _⟩
def f_Src_answer (t0 : Nat) (x1 : Int32) (x2 : Nat) (x3 : Int32) (h0 : Hs_t) : Rs_t := (fd_A [2] 2 h0 t0).bind fun v1 => (fd_I [2] 4 h0 t0).bind fun v2 => (ar_Z h0 v1 v2).bind fun v3 => if v3 = 0 then ((ck_T [2] h0 t0).bind fun _ => bd_I (f_Src_ready t0 h0) (fun v4 h1 => (fd_A [2] 0 h1 t0).bind fun v5 => (fd_I [2] 4 h1 t0).bind fun v6 => (cp_I h1 v5 v6 x2 x3 (if v4 < x1 then v4 else x1)).bind fun h2 => (fd_I [2] 4 h2 t0).bind fun v7 => (pt_V [2] 4 h2 t0 (.int (v7 + (if v4 < x1 then v4 else x1)))).bind fun h3 => re_I (if v4 < x1 then v4 else x1) h3)) else (re_I (-1) h0)
set_option maxRecDepth 100000 in
set_option maxHeartbeats 4000000 in
theorem c_Src_answer {l : Launch} {s0 : State} {A0 : Array Value} {G : Gx_t} (hG : G_0 l s0 A0 G) (rm : Room) (hrm : rm_Ok 0 0 1 40 rm) (t0 : Nat) (x1 : Int32) (x2 : Nat) (x3 : Int32) (h0 : Hs_t) (r : Outcome × Hs_t) (heq : f_Src_answer t0 x1 x2 x3 h0 = some r) : M_X G s0 l y_Src_answer (.code y_Src_answer b_Src_answer 5 (some .int)) rm [.ref t0, .int x1, .ref x2, .int x3] h0 r := by
  refine M_X.of (by decide) hG (fun p e s m below meth c H hc hR => ?_)
  have hx := hc.x
  have hb := hc.b
  obtain ⟨hm1, hm2, hm3, hm4⟩ := id hrm
  have hLo : Lo_k s0 [] := fun _ hq => absurd hq List.not_mem_nil
  have hl := lv_entry ([.ref t0, .int x1, .ref x2, .int x3]) (n := 5) (Nat.le_of_ble_eq_true rfl)
  rw [lg_entry_eq]
  generalize (lg_sl ([.ref t0, .int x1, .ref x2, .int x3]) ++ List.replicate (5 - (lg_sl ([.ref t0, .int x1, .ref x2, .int x3])).length) Slot.unset).toArray = ls at hl ⊢
  have hl : lv_has ls 5 [(0, .ref t0), (1, .int x1), (2, .ref x2), (3, .int x3)] := hl
  generalize hle : ([] : List Loc) = locs at hLo ⊢
  unfold f_Src_answer at heq
  refine lv_aload_n hx hb d_Src_answer_0 rfl (lv_at hl 0 rfl) ?_
  refine x_gA hc hR fl_Src_19 heq d_Src_answer_1 (fun v1 heq => ?_)
  refine lv_aload_n hx hb d_Src_answer_4 rfl (lv_at hl 0 rfl) ?_
  refine x_gI hc hR fl_Src_30 heq d_Src_answer_5 (fun v2 heq => ?_)
  refine x_aZ hc hR heq d_Src_answer_8 (fun v3 heq => ?_)
  refine lv_if_eq (tgt := 14) hx hb d_Src_answer_9 rfl (fun hq => ?_) (fun hq => ?_)
  · rw [if_pos hq] at heq
    refine lv_iload_n hx hb d_Src_answer_14 rfl (lv_at hl 1 rfl) ?_
    refine lv_aload_n hx hb d_Src_answer_15 rfl (lv_at hl 0 rfl) ?_
    refine x_ck heq (fun tt fs ha ht heq => ?_)
    obtain rfl : tt = 2 := by simpa using ht
    refine x_bI (mc := 0) (ms := 0) (st := [.int x1]) hc hLo heq ⟨by omega, by omega⟩ (fun r9 h9 => x_runV hc (c_Src_ready hc.g rm_Src_ready rk_Src_ready _ _ _ h9) md_Src_ready hR ha rfl wd_464 wd_144 wd_947 hl.1 ml_Src_ready rfl (Nat.le_of_ble_eq_true rfl) d_Src_answer_16 ⟨by show 0 + 1 ≤ _; omega, by show 8 + (2 + 11) + (0) ≤ _; omega⟩ ⟨by show 0 + 0 ≤ _; omega, by show 0 + 0 ≤ _; omega⟩) (fun v4 h1 H locs hR hLo heq => ?_)
    refine x_min hc hl.1 wd_465 wd_147 wd_17 wd_148 (by omega) (by show 0 + 13 ≤ _; omega) ⟨by omega, by omega⟩ d_Src_answer_19 ?_
    refine lv_istore (lv' := [(4, .int (if v4 < x1 then v4 else x1)), (0, .ref t0), (1, .int x1), (2, .ref x2), (3, .int x3)]) hx hb d_Src_answer_22 hl (by decide) rfl (fun ls hl => ?_)
    refine lv_aload_n hx hb d_Src_answer_24 rfl (lv_at hl 1 rfl) ?_
    refine x_gA hc hR fl_Src_9 heq d_Src_answer_25 (fun v5 heq => ?_)
    refine lv_aload_n hx hb d_Src_answer_28 rfl (lv_at hl 1 rfl) ?_
    refine x_gI hc hR fl_Src_30 heq d_Src_answer_29 (fun v6 heq => ?_)
    refine lv_aload_n hx hb d_Src_answer_32 rfl (lv_at hl 3 rfl) ?_
    refine lv_iload_n hx hb d_Src_answer_33 rfl (lv_at hl 4 rfl) ?_
    refine lv_iload hx hb d_Src_answer_34 (lv_at hl 0 rfl) ?_
    refine x_cpI hc hR hLo hl.1 wd_466 wd_468 wd_467 wd_18 (by omega) (by show 0 + (nativeFrameWords "java/lang/System" "arraycopy" 5 + 11) ≤ _; have := cp_w; omega) heq d_Src_answer_36 (fun h2 H locs hR hLo heq => ?_)
    refine lv_aload_n hx hb d_Src_answer_39 rfl (lv_at hl 1 rfl) ?_
    refine lv_dup hx hb d_Src_answer_40 rfl ?_
    refine x_gI hc hR fl_Src_30 heq d_Src_answer_41 (fun v7 heq => ?_)
    refine lv_iload hx hb d_Src_answer_44 (lv_at hl 0 rfl) ?_
    refine lv_iadd hx hb d_Src_answer_46 ?_
    refine x_pV hc hR hLo fl_Src_30 (Or.inl rfl) rfl rfl heq d_Src_answer_47 (fun h3 H locs hR hLo heq => ?_)
    refine lv_iload hx hb d_Src_answer_50 (lv_at hl 0 rfl) ?_
    exact x_iret hc hR hLo ⟨by omega, by omega⟩ heq d_Src_answer_52
  · rw [if_neg hq] at heq
    refine lv_iconst (v := (-1)) hx hb d_Src_answer_12 (by decide) ?_
    exact x_iret hc hR hLo ⟨by omega, by omega⟩ heq d_Src_answer_13
def rm_Src_answer : Room := { frames := 1, cells := 0, slots := 0, locals := 40 }
theorem rk_Src_answer : rm_Ok 0 0 1 40 rm_Src_answer := ⟨Nat.le_refl _, Nat.le_refl _, Nat.le_refl _, Nat.le_refl _⟩
def f_Src_state (t0 : Nat) (h0 : Hs_t) : Rs_t := (fd_I [2] 4 h0 t0).bind fun v1 => re_I v1 h0
set_option maxRecDepth 100000 in
set_option maxHeartbeats 4000000 in
theorem c_Src_state {l : Launch} {s0 : State} {A0 : Array Value} {G : Gx_t} (hG : G_0 l s0 A0 G) (rm : Room) (hrm : rm_Ok 0 0 0 0 rm) (t0 : Nat) (h0 : Hs_t) (r : Outcome × Hs_t) (heq : f_Src_state t0 h0 = some r) : M_X G s0 l y_Src_state (.code y_Src_state b_Src_state 1 (some .int)) rm [.ref t0] h0 r := by
  refine M_X.of (by decide) hG (fun p e s m below meth c H hc hR => ?_)
  have hx := hc.x
  have hb := hc.b
  obtain ⟨hm1, hm2, hm3, hm4⟩ := id hrm
  have hLo : Lo_k s0 [] := fun _ hq => absurd hq List.not_mem_nil
  have hl := lv_entry ([.ref t0]) (n := 1) (Nat.le_of_ble_eq_true rfl)
  rw [lg_entry_eq]
  generalize (lg_sl ([.ref t0]) ++ List.replicate (1 - (lg_sl ([.ref t0])).length) Slot.unset).toArray = ls at hl ⊢
  have hl : lv_has ls 1 [(0, .ref t0)] := hl
  generalize hle : ([] : List Loc) = locs at hLo ⊢
  unfold f_Src_state at heq
  refine lv_aload_n hx hb d_Src_state_0 rfl (lv_at hl 0 rfl) ?_
  refine x_gI hc hR fl_Src_30 heq d_Src_state_1 (fun v1 heq => ?_)
  exact x_iret hc hR hLo ⟨by omega, by omega⟩ heq d_Src_state_4
def rm_Src_state : Room := { frames := 0, cells := 0, slots := 0, locals := 0 }
theorem rk_Src_state : rm_Ok 0 0 0 0 rm_Src_state := ⟨Nat.le_refl _, Nat.le_refl _, Nat.le_refl _, Nat.le_refl _⟩
def f_Str_canBeMarked (t0 : Nat) (h0 : Hs_t) : Rs_t := re_Z 0 h0
set_option maxRecDepth 100000 in
set_option maxHeartbeats 4000000 in
theorem c_Str_canBeMarked {l : Launch} {s0 : State} {A0 : Array Value} {G : Gx_t} (hG : G_0 l s0 A0 G) (rm : Room) (hrm : rm_Ok 0 0 0 0 rm) (t0 : Nat) (h0 : Hs_t) (r : Outcome × Hs_t) (heq : f_Str_canBeMarked t0 h0 = some r) : M_X G s0 l y_Str_canBeMarked (.code y_Str_canBeMarked b_Str_canBeMarked 1 (some .boolean)) rm [.ref t0] h0 r := by
  refine M_X.of (by decide) hG (fun p e s m below meth c H hc hR => ?_)
  have hx := hc.x
  have hb := hc.b
  obtain ⟨hm1, hm2, hm3, hm4⟩ := id hrm
  have hLo : Lo_k s0 [] := fun _ hq => absurd hq List.not_mem_nil
  have hl := lv_entry ([.ref t0]) (n := 1) (Nat.le_of_ble_eq_true rfl)
  rw [lg_entry_eq]
  generalize (lg_sl ([.ref t0]) ++ List.replicate (1 - (lg_sl ([.ref t0])).length) Slot.unset).toArray = ls at hl ⊢
  have hl : lv_has ls 1 [(0, .ref t0)] := hl
  generalize hle : ([] : List Loc) = locs at hLo ⊢
  unfold f_Str_canBeMarked at heq
  refine lv_iconst (v := 0) hx hb d_Str_canBeMarked_0 (by decide) ?_
  exact x_zret hc hR hLo ⟨by omega, by omega⟩ heq d_Str_canBeMarked_1
def rm_Str_canBeMarked : Room := { frames := 0, cells := 0, slots := 0, locals := 0 }
theorem rk_Str_canBeMarked : rm_Ok 0 0 0 0 rm_Str_canBeMarked := ⟨Nat.le_refl _, Nat.le_refl _, Nat.le_refl _, Nat.le_refl _⟩
def f_Str_hasMark (t0 : Nat) (h0 : Hs_t) : Rs_t := re_Z 0 h0
set_option maxRecDepth 100000 in
set_option maxHeartbeats 4000000 in
theorem c_Str_hasMark {l : Launch} {s0 : State} {A0 : Array Value} {G : Gx_t} (hG : G_0 l s0 A0 G) (rm : Room) (hrm : rm_Ok 0 0 0 0 rm) (t0 : Nat) (h0 : Hs_t) (r : Outcome × Hs_t) (heq : f_Str_hasMark t0 h0 = some r) : M_X G s0 l y_Str_hasMark (.code y_Str_hasMark b_Str_hasMark 1 (some .boolean)) rm [.ref t0] h0 r := by
  refine M_X.of (by decide) hG (fun p e s m below meth c H hc hR => ?_)
  have hx := hc.x
  have hb := hc.b
  obtain ⟨hm1, hm2, hm3, hm4⟩ := id hrm
  have hLo : Lo_k s0 [] := fun _ hq => absurd hq List.not_mem_nil
  have hl := lv_entry ([.ref t0]) (n := 1) (Nat.le_of_ble_eq_true rfl)
  rw [lg_entry_eq]
  generalize (lg_sl ([.ref t0]) ++ List.replicate (1 - (lg_sl ([.ref t0])).length) Slot.unset).toArray = ls at hl ⊢
  have hl : lv_has ls 1 [(0, .ref t0)] := hl
  generalize hle : ([] : List Loc) = locs at hLo ⊢
  unfold f_Str_hasMark at heq
  refine lv_iconst (v := 0) hx hb d_Str_hasMark_0 (by decide) ?_
  exact x_zret hc hR hLo ⟨by omega, by omega⟩ heq d_Str_hasMark_1
def rm_Str_hasMark : Room := { frames := 0, cells := 0, slots := 0, locals := 0 }
theorem rk_Str_hasMark : rm_Ok 0 0 0 0 rm_Str_hasMark := ⟨Nat.le_refl _, Nat.le_refl _, Nat.le_refl _, Nat.le_refl _⟩
def f_Str_takeMark (t0 : Nat) (x1 : Int32) (h0 : Hs_t) : Rs_t := re_V h0
set_option maxRecDepth 100000 in
set_option maxHeartbeats 4000000 in
theorem c_Str_takeMark {l : Launch} {s0 : State} {A0 : Array Value} {G : Gx_t} (hG : G_0 l s0 A0 G) (rm : Room) (hrm : rm_Ok 0 0 0 0 rm) (t0 : Nat) (x1 : Int32) (h0 : Hs_t) (r : Outcome × Hs_t) (heq : f_Str_takeMark t0 x1 h0 = some r) : M_X G s0 l y_Str_takeMark (.code y_Str_takeMark b_Str_takeMark 2 none) rm [.ref t0, .int x1] h0 r := by
  refine M_X.of (by decide) hG (fun p e s m below meth c H hc hR => ?_)
  have hx := hc.x
  have hb := hc.b
  obtain ⟨hm1, hm2, hm3, hm4⟩ := id hrm
  have hLo : Lo_k s0 [] := fun _ hq => absurd hq List.not_mem_nil
  have hl := lv_entry ([.ref t0, .int x1]) (n := 2) (Nat.le_of_ble_eq_true rfl)
  rw [lg_entry_eq]
  generalize (lg_sl ([.ref t0, .int x1]) ++ List.replicate (2 - (lg_sl ([.ref t0, .int x1])).length) Slot.unset).toArray = ls at hl ⊢
  have hl : lv_has ls 2 [(0, .ref t0), (1, .int x1)] := hl
  generalize hle : ([] : List Loc) = locs at hLo ⊢
  unfold f_Str_takeMark at heq
  exact x_vret hc hR hLo ⟨by omega, by omega⟩ heq d_Str_takeMark_0
def rm_Str_takeMark : Room := { frames := 0, cells := 0, slots := 0, locals := 0 }
theorem rk_Str_takeMark : rm_Ok 0 0 0 0 rm_Str_takeMark := ⟨Nat.le_refl _, Nat.le_refl _, Nat.le_refl _, Nat.le_refl _⟩
def f_Str_goBack (t0 : Nat) (h0 : Hs_t) : Rs_t := re_V h0
set_option maxRecDepth 100000 in
set_option maxHeartbeats 4000000 in
theorem c_Str_goBack {l : Launch} {s0 : State} {A0 : Array Value} {G : Gx_t} (hG : G_0 l s0 A0 G) (rm : Room) (hrm : rm_Ok 0 0 0 0 rm) (t0 : Nat) (h0 : Hs_t) (r : Outcome × Hs_t) (heq : f_Str_goBack t0 h0 = some r) : M_X G s0 l y_Str_goBack (.code y_Str_goBack b_Str_goBack 1 none) rm [.ref t0] h0 r := by
  refine M_X.of (by decide) hG (fun p e s m below meth c H hc hR => ?_)
  have hx := hc.x
  have hb := hc.b
  obtain ⟨hm1, hm2, hm3, hm4⟩ := id hrm
  have hLo : Lo_k s0 [] := fun _ hq => absurd hq List.not_mem_nil
  have hl := lv_entry ([.ref t0]) (n := 1) (Nat.le_of_ble_eq_true rfl)
  rw [lg_entry_eq]
  generalize (lg_sl ([.ref t0]) ++ List.replicate (1 - (lg_sl ([.ref t0])).length) Slot.unset).toArray = ls at hl ⊢
  have hl : lv_has ls 1 [(0, .ref t0)] := hl
  generalize hle : ([] : List Loc) = locs at hLo ⊢
  unfold f_Str_goBack at heq
  exact x_vret hc hR hLo ⟨by omega, by omega⟩ heq d_Str_goBack_0
def rm_Str_goBack : Room := { frames := 0, cells := 0, slots := 0, locals := 0 }
theorem rk_Str_goBack : rm_Ok 0 0 0 0 rm_Str_goBack := ⟨Nat.le_refl _, Nat.le_refl _, Nat.le_refl _, Nat.le_refl _⟩
