def fu_N : Nat := 2000
def dp_N : Nat := 7
theorem cp_w : nativeFrameWords "java/lang/System" "arraycopy" 5 + 11 ≤ 40 := by decide +kernel
def xn_answer : MethodName := ⟨"StreamTower$Stream", "answer", "(I[II)I"⟩
def xn_ready : MethodName := ⟨"StreamTower$Stream", "ready", "()I"⟩
def xn_state : MethodName := ⟨"StreamTower$Stream", "state", "()I"⟩
def xn_canBeMarked : MethodName := ⟨"StreamTower$Stream", "canBeMarked", "()Z"⟩
def xn_hasMark : MethodName := ⟨"StreamTower$Stream", "hasMark", "()Z"⟩
def xn_takeMark : MethodName := ⟨"StreamTower$Stream", "takeMark", "(I)V"⟩
def xn_goBack : MethodName := ⟨"StreamTower$Stream", "goBack", "()V"⟩
def xn_remember : MethodName := ⟨"StreamTower$Passing", "remember", "()V"⟩
def xn_recall : MethodName := ⟨"StreamTower$Passing", "recall", "()V"⟩
theorem d_Row_init_0 : decode b_Row_init 0 = .ok (.aload_n 0, 1) := by decide +kernel
theorem d_Row_init_1 : decode b_Row_init 1 = .ok (.invokespecial 3, 3) := by decide +kernel
theorem d_Row_init_4 : decode b_Row_init 4 = .ok (.aload_n 0, 1) := by decide +kernel
theorem d_Row_init_5 : decode b_Row_init 5 = .ok (.iload_n 1, 1) := by decide +kernel
theorem d_Row_init_6 : decode b_Row_init 6 = .ok (.newarray .int, 2) := by decide +kernel
theorem d_Row_init_8 : decode b_Row_init 8 = .ok (.putfield 9, 3) := by decide +kernel
theorem d_Row_init_11 : decode b_Row_init 11 = .ok (.return_, 1) := by decide +kernel
theorem d_Row_clear_0 : decode b_Row_clear 0 = .ok (.aload_n 0, 1) := by decide +kernel
theorem d_Row_clear_1 : decode b_Row_clear 1 = .ok (.iconst 0, 1) := by decide +kernel
theorem d_Row_clear_2 : decode b_Row_clear 2 = .ok (.putfield 15, 3) := by decide +kernel
theorem d_Row_clear_5 : decode b_Row_clear 5 = .ok (.return_, 1) := by decide +kernel
theorem d_Row_add_0 : decode b_Row_add 0 = .ok (.aload_n 0, 1) := by decide +kernel
theorem d_Row_add_1 : decode b_Row_add 1 = .ok (.getfield 15, 3) := by decide +kernel
theorem d_Row_add_4 : decode b_Row_add 4 = .ok (.aload_n 0, 1) := by decide +kernel
theorem d_Row_add_5 : decode b_Row_add 5 = .ok (.getfield 9, 3) := by decide +kernel
theorem d_Row_add_8 : decode b_Row_add 8 = .ok (.arraylength, 1) := by decide +kernel
theorem d_Row_add_9 : decode b_Row_add 9 = .ok (.if_icmp .ge 23, 3) := by decide +kernel
theorem d_Row_add_12 : decode b_Row_add 12 = .ok (.aload_n 0, 1) := by decide +kernel
theorem d_Row_add_13 : decode b_Row_add 13 = .ok (.getfield 9, 3) := by decide +kernel
theorem d_Row_add_16 : decode b_Row_add 16 = .ok (.aload_n 0, 1) := by decide +kernel
theorem d_Row_add_17 : decode b_Row_add 17 = .ok (.getfield 15, 3) := by decide +kernel
theorem d_Row_add_20 : decode b_Row_add 20 = .ok (.iload_n 1, 1) := by decide +kernel
theorem d_Row_add_21 : decode b_Row_add 21 = .ok (.iastore, 1) := by decide +kernel
theorem d_Row_add_22 : decode b_Row_add 22 = .ok (.aload_n 0, 1) := by decide +kernel
theorem d_Row_add_23 : decode b_Row_add 23 = .ok (.dup, 1) := by decide +kernel
theorem d_Row_add_24 : decode b_Row_add 24 = .ok (.getfield 15, 3) := by decide +kernel
theorem d_Row_add_27 : decode b_Row_add 27 = .ok (.iconst 1, 1) := by decide +kernel
theorem d_Row_add_28 : decode b_Row_add 28 = .ok (.iadd, 1) := by decide +kernel
theorem d_Row_add_29 : decode b_Row_add 29 = .ok (.putfield 15, 3) := by decide +kernel
theorem d_Row_add_32 : decode b_Row_add 32 = .ok (.return_, 1) := by decide +kernel
theorem d_Row_addAll_0 : decode b_Row_addAll 0 = .ok (.iconst 0, 1) := by decide +kernel
theorem d_Row_addAll_1 : decode b_Row_addAll 1 = .ok (.istore_n 3, 1) := by decide +kernel
theorem d_Row_addAll_2 : decode b_Row_addAll 2 = .ok (.iload_n 3, 1) := by decide +kernel
theorem d_Row_addAll_3 : decode b_Row_addAll 3 = .ok (.iload_n 2, 1) := by decide +kernel
theorem d_Row_addAll_4 : decode b_Row_addAll 4 = .ok (.if_icmp .ge 16, 3) := by decide +kernel
theorem d_Row_addAll_7 : decode b_Row_addAll 7 = .ok (.aload_n 0, 1) := by decide +kernel
theorem d_Row_addAll_8 : decode b_Row_addAll 8 = .ok (.aload_n 1, 1) := by decide +kernel
theorem d_Row_addAll_9 : decode b_Row_addAll 9 = .ok (.iload_n 3, 1) := by decide +kernel
theorem d_Row_addAll_10 : decode b_Row_addAll 10 = .ok (.iaload, 1) := by decide +kernel
theorem d_Row_addAll_11 : decode b_Row_addAll 11 = .ok (.invokevirtual 19, 3) := by decide +kernel
theorem d_Row_addAll_14 : decode b_Row_addAll 14 = .ok (.iinc 3 1, 3) := by decide +kernel
theorem d_Row_addAll_17 : decode b_Row_addAll 17 = .ok (.goto (-15), 3) := by decide +kernel
theorem d_Row_addAll_20 : decode b_Row_addAll 20 = .ok (.return_, 1) := by decide +kernel
theorem d_Row_get_0 : decode b_Row_get 0 = .ok (.iload_n 1, 1) := by decide +kernel
theorem d_Row_get_1 : decode b_Row_get 1 = .ok (.ifCond .lt 20, 3) := by decide +kernel
theorem d_Row_get_4 : decode b_Row_get 4 = .ok (.iload_n 1, 1) := by decide +kernel
theorem d_Row_get_5 : decode b_Row_get 5 = .ok (.aload_n 0, 1) := by decide +kernel
theorem d_Row_get_6 : decode b_Row_get 6 = .ok (.getfield 15, 3) := by decide +kernel
theorem d_Row_get_9 : decode b_Row_get 9 = .ok (.if_icmp .ge 12, 3) := by decide +kernel
theorem d_Row_get_12 : decode b_Row_get 12 = .ok (.aload_n 0, 1) := by decide +kernel
theorem d_Row_get_13 : decode b_Row_get 13 = .ok (.getfield 9, 3) := by decide +kernel
theorem d_Row_get_16 : decode b_Row_get 16 = .ok (.iload_n 1, 1) := by decide +kernel
theorem d_Row_get_17 : decode b_Row_get 17 = .ok (.iaload, 1) := by decide +kernel
theorem d_Row_get_18 : decode b_Row_get 18 = .ok (.goto 4, 3) := by decide +kernel
theorem d_Row_get_21 : decode b_Row_get 21 = .ok (.iconst (-1), 1) := by decide +kernel
theorem d_Row_get_22 : decode b_Row_get 22 = .ok (.ireturn, 1) := by decide +kernel
theorem fl_Row_9 : fl_Ok "StreamTower$Row" 9 "StreamTower$Row" "items" "[I" "StreamTower$Row" [1] 0 true (.array .int) := ⟨wd_65, by decide +kernel, Or.inl rfl, fun t ht => by obtain rfl := List.mem_singleton.mp ht; exact ⟨_, _, _, rfl, by decide, rfl⟩⟩
theorem md_Row_init : md_Ok y_Row_init (.code y_Row_init b_Row_init 2 none) 2 := ⟨wd_63, wd_4, ⟨by decide, by decide⟩, Or.inl ⟨_, _, rfl⟩⟩
theorem ml_Row_init : (parseMethodDescriptor y_Row_init.desc).map (fun d => d.parameters.length) = some 1 := by decide +kernel
theorem fl_Row_15 : fl_Ok "StreamTower$Row" 15 "StreamTower$Row" "count" "I" "StreamTower$Row" [1] 1 false (.int) := ⟨wd_66, by decide +kernel, Or.inl rfl, fun t ht => by obtain rfl := List.mem_singleton.mp ht; exact ⟨_, _, _, rfl, by decide, rfl⟩⟩
theorem md_Row_clear : md_Ok y_Row_clear (.code y_Row_clear b_Row_clear 1 none) 1 := ⟨wd_434, wd_4, ⟨by decide, by decide⟩, Or.inl ⟨_, _, rfl⟩⟩
theorem ml_Row_clear : (parseMethodDescriptor y_Row_clear.desc).map (fun d => d.parameters.length) = some 0 := by decide +kernel
theorem md_Row_add : md_Ok y_Row_add (.code y_Row_add b_Row_add 2 none) 2 := ⟨wd_497, wd_4, ⟨by decide, by decide⟩, Or.inl ⟨_, _, rfl⟩⟩
theorem ml_Row_add : (parseMethodDescriptor y_Row_add.desc).map (fun d => d.parameters.length) = some 1 := by decide +kernel
theorem md_Row_addAll : md_Ok y_Row_addAll (.code y_Row_addAll b_Row_addAll 4 none) 4 := ⟨wd_493, wd_4, ⟨by decide, by decide⟩, Or.inl ⟨_, _, rfl⟩⟩
theorem ml_Row_addAll : (parseMethodDescriptor y_Row_addAll.desc).map (fun d => d.parameters.length) = some 2 := by decide +kernel
theorem md_Row_get : md_Ok y_Row_get (.code y_Row_get b_Row_get 2 (some .int)) 2 := ⟨wd_200, wd_4, ⟨by decide, by decide⟩, Or.inl ⟨_, _, rfl⟩⟩
theorem ml_Row_get : (parseMethodDescriptor y_Row_get.desc).map (fun d => d.parameters.length) = some 1 := by decide +kernel
def f_Row_init (t0 : Nat) (x1 : Int32) (h0 : Hs_t) : Rs_t := (nw_I 160 x1 h0).bind fun h1 => (pt_V [1] 0 h1 t0 (.ref h0.1)).bind fun h2 => re_V h2
set_option maxRecDepth 100000 in
set_option maxHeartbeats 4000000 in
theorem c_Row_init {l : Launch} {s0 : State} {A0 : Array Value} {G : Gx_t} (hG : G_0 l s0 A0 G) (rm : Room) (hrm : rm_Ok 1 160 1 12 rm) (t0 : Nat) (x1 : Int32) (h0 : Hs_t) (r : Outcome × Hs_t) (heq : f_Row_init t0 x1 h0 = some r) : M_X G s0 l y_Row_init (.code y_Row_init b_Row_init 2 none) rm [.ref t0, .int x1] h0 r := by
  refine M_X.of (by decide) hG (fun p e s m below meth c H hc hR => ?_)
  have hx := hc.x
  have hb := hc.b
  obtain ⟨hm1, hm2, hm3, hm4⟩ := id hrm
  have hLo : Lo_k s0 [] := fun _ hq => absurd hq List.not_mem_nil
  have hl := lv_entry ([.ref t0, .int x1]) (n := 2) (Nat.le_of_ble_eq_true rfl)
  rw [lg_entry_eq]
  generalize (lg_sl ([.ref t0, .int x1]) ++ List.replicate (2 - (lg_sl ([.ref t0, .int x1])).length) Slot.unset).toArray = ls at hl ⊢
  have hl : lv_has ls 2 [(0, .ref t0), (1, .int x1)] := hl
  generalize hle : ([] : List Loc) = locs at hLo ⊢
  unfold f_Row_init at heq
  refine lv_aload_n hx hb d_Row_init_0 rfl (lv_at hl 0 rfl) ?_
  refine W.objInit hx hb hc.o (hc.w wd_64) (hc.w wd_27) (hc.w wd_28) rfl (by rw [hc.ml]; exact hl.1) rfl d_Row_init_1 (by omega) (by show 2 * 0 + 0 + 12 ≤ _; omega) ?_
  refine W.eq (g2 := F0 m 4 ls []) rfl ?_
  refine lv_aload_n hx hb d_Row_init_4 rfl (lv_at hl 0 rfl) ?_
  refine lv_iload_n hx hb d_Row_init_5 rfl (lv_at hl 1 rfl) ?_
  refine x_newI hc hR wd_55 (by decide) ⟨by omega, by omega⟩ heq d_Row_init_6 (fun h1 H hR heq => ?_)
  refine x_pV hc hR hLo fl_Row_9 (Or.inr ⟨rfl, rfl⟩) rfl rfl heq d_Row_init_8 (fun h2 H locs hR hLo heq => ?_)
  exact x_vret hc hR hLo ⟨by omega, by omega⟩ heq d_Row_init_11
def rm_Row_init : Room := { frames := 1, cells := 1, slots := 160, locals := 12 }
theorem rk_Row_init : rm_Ok 1 160 1 12 rm_Row_init := ⟨Nat.le_refl _, Nat.le_refl _, Nat.le_refl _, Nat.le_refl _⟩
def f_Row_clear (t0 : Nat) (h0 : Hs_t) : Rs_t := (pt_V [1] 1 h0 t0 (.int 0)).bind fun h1 => re_V h1
set_option maxRecDepth 100000 in
set_option maxHeartbeats 4000000 in
theorem c_Row_clear {l : Launch} {s0 : State} {A0 : Array Value} {G : Gx_t} (hG : G_0 l s0 A0 G) (rm : Room) (hrm : rm_Ok 0 0 0 0 rm) (t0 : Nat) (h0 : Hs_t) (r : Outcome × Hs_t) (heq : f_Row_clear t0 h0 = some r) : M_X G s0 l y_Row_clear (.code y_Row_clear b_Row_clear 1 none) rm [.ref t0] h0 r := by
  refine M_X.of (by decide) hG (fun p e s m below meth c H hc hR => ?_)
  have hx := hc.x
  have hb := hc.b
  obtain ⟨hm1, hm2, hm3, hm4⟩ := id hrm
  have hLo : Lo_k s0 [] := fun _ hq => absurd hq List.not_mem_nil
  have hl := lv_entry ([.ref t0]) (n := 1) (Nat.le_of_ble_eq_true rfl)
  rw [lg_entry_eq]
  generalize (lg_sl ([.ref t0]) ++ List.replicate (1 - (lg_sl ([.ref t0])).length) Slot.unset).toArray = ls at hl ⊢
  have hl : lv_has ls 1 [(0, .ref t0)] := hl
  generalize hle : ([] : List Loc) = locs at hLo ⊢
  unfold f_Row_clear at heq
  refine lv_aload_n hx hb d_Row_clear_0 rfl (lv_at hl 0 rfl) ?_
  refine lv_iconst (v := 0) hx hb d_Row_clear_1 (by decide) ?_
  refine x_pV hc hR hLo fl_Row_15 (Or.inl rfl) rfl rfl heq d_Row_clear_2 (fun h1 H locs hR hLo heq => ?_)
  exact x_vret hc hR hLo ⟨by omega, by omega⟩ heq d_Row_clear_5
def rm_Row_clear : Room := { frames := 0, cells := 0, slots := 0, locals := 0 }
theorem rk_Row_clear : rm_Ok 0 0 0 0 rm_Row_clear := ⟨Nat.le_refl _, Nat.le_refl _, Nat.le_refl _, Nat.le_refl _⟩
def f_Row_add_b32 (h0 : Hs_t) : Rs_t := re_V h0
def f_Row_add (t0 : Nat) (x1 : Int32) (h0 : Hs_t) : Rs_t := (fd_I [1] 1 h0 t0).bind fun v1 => (fd_A [1] 0 h0 t0).bind fun v2 => (ln_A h0 v2).bind fun v3 => if v3 ≤ v1 then (f_Row_add_b32 h0) else ((fd_A [1] 0 h0 t0).bind fun v4 => (fd_I [1] 1 h0 t0).bind fun v5 => (as_I h0 v4 v5 x1).bind fun h1 => (fd_I [1] 1 h1 t0).bind fun v6 => (pt_V [1] 1 h1 t0 (.int (v6 + 1))).bind fun h2 => f_Row_add_b32 h2)
set_option maxRecDepth 100000 in
set_option maxHeartbeats 4000000 in
theorem k_Row_add_b32 {p : Program} {l : Launch} {e : Env} {s : State} {m : MethodId} {args : Array Value} {below : List Frame} {meth : Method} {c : Code} {s0 : State} {A0 : Array Value} {G : Gx_t} {r : Outcome × Hs_t} {rm : Room} (hc : Cx_t p s m meth c s0 A0 l G y_Row_add b_Row_add 2 none []) (hrm : rm_Ok 0 0 0 0 rm) : ∀  (h0 : Hs_t) (H : Heap) (locs : List Loc) (ls : Array Slot), Rp_h G s0.heap h0 H → Lo_k s0 locs → lv_has ls 2 [] → f_Row_add_b32  h0 = some r → W p l e rm s m args below meth c H locs 0 0 (xq_MQ G s0 below r s rm.cells rm.slots) (F0 m 32 ls []) := by
  have hx := hc.x
  have hb := hc.b
  obtain ⟨hm1, hm2, hm3, hm4⟩ := id hrm
  intro  h0 H locs ls hR hLo hl heq
  unfold f_Row_add_b32 at heq
  exact x_vret hc hR hLo ⟨by omega, by omega⟩ heq d_Row_add_32
set_option maxRecDepth 100000 in
set_option maxHeartbeats 4000000 in
theorem c_Row_add {l : Launch} {s0 : State} {A0 : Array Value} {G : Gx_t} (hG : G_0 l s0 A0 G) (rm : Room) (hrm : rm_Ok 0 0 0 0 rm) (t0 : Nat) (x1 : Int32) (h0 : Hs_t) (r : Outcome × Hs_t) (heq : f_Row_add t0 x1 h0 = some r) : M_X G s0 l y_Row_add (.code y_Row_add b_Row_add 2 none) rm [.ref t0, .int x1] h0 r := by
  refine M_X.of (by decide) hG (fun p e s m below meth c H hc hR => ?_)
  have hx := hc.x
  have hb := hc.b
  obtain ⟨hm1, hm2, hm3, hm4⟩ := id hrm
  have hLo : Lo_k s0 [] := fun _ hq => absurd hq List.not_mem_nil
  have hl := lv_entry ([.ref t0, .int x1]) (n := 2) (Nat.le_of_ble_eq_true rfl)
  rw [lg_entry_eq]
  generalize (lg_sl ([.ref t0, .int x1]) ++ List.replicate (2 - (lg_sl ([.ref t0, .int x1])).length) Slot.unset).toArray = ls at hl ⊢
  have hl : lv_has ls 2 [(0, .ref t0), (1, .int x1)] := hl
  generalize hle : ([] : List Loc) = locs at hLo ⊢
  unfold f_Row_add at heq
  refine lv_aload_n hx hb d_Row_add_0 rfl (lv_at hl 0 rfl) ?_
  refine x_gI hc hR fl_Row_15 heq d_Row_add_1 (fun v1 heq => ?_)
  refine lv_aload_n hx hb d_Row_add_4 rfl (lv_at hl 0 rfl) ?_
  refine x_gA hc hR fl_Row_9 heq d_Row_add_5 (fun v2 heq => ?_)
  refine x_len hc hR heq d_Row_add_8 (fun v3 heq => ?_)
  refine lv_icmp_ge (tgt := 32) hx hb d_Row_add_9 rfl (fun hq => ?_) (fun hq => ?_)
  · rw [if_pos hq] at heq
    refine W.widen (k := 0) (n := 0) (by omega) (by omega) ?_
    exact k_Row_add_b32 hc hrm h0 H locs ls hR hLo (lv_sub hl [] rfl) heq
  · rw [if_neg hq] at heq
    refine lv_aload_n hx hb d_Row_add_12 rfl (lv_at hl 0 rfl) ?_
    refine x_gA hc hR fl_Row_9 heq d_Row_add_13 (fun v4 heq => ?_)
    refine lv_aload_n hx hb d_Row_add_16 rfl (lv_at hl 0 rfl) ?_
    refine x_gI hc hR fl_Row_15 heq d_Row_add_17 (fun v5 heq => ?_)
    refine lv_iload_n hx hb d_Row_add_20 rfl (lv_at hl 1 rfl) ?_
    refine x_sI hc hR hLo heq d_Row_add_21 (fun h1 H locs hR hLo heq => ?_)
    refine lv_aload_n hx hb d_Row_add_22 rfl (lv_at hl 0 rfl) ?_
    refine lv_dup hx hb d_Row_add_23 rfl ?_
    refine x_gI hc hR fl_Row_15 heq d_Row_add_24 (fun v6 heq => ?_)
    refine lv_iconst (v := 1) hx hb d_Row_add_27 (by decide) ?_
    refine lv_iadd hx hb d_Row_add_28 ?_
    refine x_pV hc hR hLo fl_Row_15 (Or.inl rfl) rfl rfl heq d_Row_add_29 (fun h2 H locs hR hLo heq => ?_)
    refine W.widen (k := 0) (n := 0) (by omega) (by omega) ?_
    exact k_Row_add_b32 hc hrm h2 H locs ls hR hLo (lv_sub hl [] rfl) heq
def rm_Row_add : Room := { frames := 0, cells := 0, slots := 0, locals := 0 }
theorem rk_Row_add : rm_Ok 0 0 0 0 rm_Row_add := ⟨Nat.le_refl _, Nat.le_refl _, Nat.le_refl _, Nat.le_refl _⟩
def f_Row_addAll_b2 : Nat → Nat → Nat → Int32 → Int32 → Hs_t → Rs_t
  | 0, _, _, _, _, _ => none
  | n + 1, t0, x1, x2, x3, h0 => if x2 ≤ x3 then (re_V h0) else ((ar_I h0 x1 x3).bind fun v1 => (ck_T [1] h0 t0).bind fun _ => bd_V (f_Row_add t0 v1 h0) (fun h1 => (f_Row_addAll_b2 n) t0 x1 x2 (x3 + 1) h1))
def f_Row_addAll (t0 : Nat) (x1 : Nat) (x2 : Int32) (h0 : Hs_t) : Rs_t := f_Row_addAll_b2 fu_N t0 x1 x2 0 h0
set_option maxRecDepth 100000 in
set_option maxHeartbeats 4000000 in
theorem k_Row_addAll_b2 {p : Program} {l : Launch} {e : Env} {s : State} {m : MethodId} {args : Array Value} {below : List Frame} {meth : Method} {c : Code} {s0 : State} {A0 : Array Value} {G : Gx_t} {r : Outcome × Hs_t} {rm : Room} (hc : Cx_t p s m meth c s0 A0 l G y_Row_addAll b_Row_addAll 4 none []) (hrm : rm_Ok 0 0 1 21 rm) : ∀ (n : Nat) (t0 : Nat) (x1 : Nat) (x2 : Int32) (x3 : Int32) (h0 : Hs_t) (H : Heap) (locs : List Loc) (ls : Array Slot), Rp_h G s0.heap h0 H → Lo_k s0 locs → lv_has ls 4 [(0, .ref t0), (1, .ref x1), (2, .int x2), (3, .int x3)] → f_Row_addAll_b2 n t0 x1 x2 x3 h0 = some r → W p l e rm s m args below meth c H locs 0 0 (xq_MQ G s0 below r s rm.cells rm.slots) (F0 m 2 ls []) := by
  have hx := hc.x
  have hb := hc.b
  obtain ⟨hm1, hm2, hm3, hm4⟩ := id hrm
  intro n
  induction n with
  | zero =>
    intro t0 x1 x2 x3 h0 H locs ls hR hLo hl heq
    unfold f_Row_addAll_b2 at heq
    cases heq
  | succ n hr2 =>
    intro t0 x1 x2 x3 h0 H locs ls hR hLo hl heq
    unfold f_Row_addAll_b2 at heq
    refine lv_iload_n hx hb d_Row_addAll_2 rfl (lv_at hl 3 rfl) ?_
    refine lv_iload_n hx hb d_Row_addAll_3 rfl (lv_at hl 2 rfl) ?_
    refine lv_icmp_ge (tgt := 20) hx hb d_Row_addAll_4 rfl (fun hq => ?_) (fun hq => ?_)
    · rw [if_pos hq] at heq
      exact x_vret hc hR hLo ⟨by omega, by omega⟩ heq d_Row_addAll_20
    · rw [if_neg hq] at heq
      refine lv_aload_n hx hb d_Row_addAll_7 rfl (lv_at hl 0 rfl) ?_
      refine lv_aload_n hx hb d_Row_addAll_8 rfl (lv_at hl 1 rfl) ?_
      refine lv_iload_n hx hb d_Row_addAll_9 rfl (lv_at hl 3 rfl) ?_
      refine x_aI hc hR heq d_Row_addAll_10 (fun v1 heq => ?_)
      refine x_ck heq (fun tt fs ha ht heq => ?_)
      obtain rfl : tt = 1 := by simpa using ht
      refine x_bV (mc := 0) (ms := 0) (st := []) hc hLo heq ⟨by omega, by omega⟩ (fun r9 h9 => x_runV hc (c_Row_add hc.g rm_Row_add rk_Row_add _ _ _ _ h9) md_Row_add hR ha rfl wd_494 wd_495 wd_496 hl.1 ml_Row_add rfl (Nat.le_of_ble_eq_true rfl) d_Row_addAll_11 ⟨by show 0 + 1 ≤ _; omega, by show 8 + (2 + 11) + (0) ≤ _; omega⟩ ⟨by show 0 + 0 ≤ _; omega, by show 0 + 0 ≤ _; omega⟩) (fun h1 H locs hR hLo heq => ?_)
      refine lv_iinc (k := 3) (v := (x3 + 1)) (lv' := [(3, .int (x3 + 1)), (0, .ref t0), (1, .ref x1), (2, .int x2)]) hx hb d_Row_addAll_14 hl rfl rfl (by decide) rfl (fun ls hl => ?_)
      refine lv_goto (tgt := 2) hx hb d_Row_addAll_17 rfl ?_
      refine W.widen (k := 0) (n := 0) (by omega) (by omega) ?_
      exact hr2 t0 x1 x2 (x3 + 1) h1 H locs ls hR hLo (lv_sub hl [1, 2, 3, 0] rfl) heq
set_option maxRecDepth 100000 in
set_option maxHeartbeats 4000000 in
theorem c_Row_addAll {l : Launch} {s0 : State} {A0 : Array Value} {G : Gx_t} (hG : G_0 l s0 A0 G) (rm : Room) (hrm : rm_Ok 0 0 1 21 rm) (t0 : Nat) (x1 : Nat) (x2 : Int32) (h0 : Hs_t) (r : Outcome × Hs_t) (heq : f_Row_addAll t0 x1 x2 h0 = some r) : M_X G s0 l y_Row_addAll (.code y_Row_addAll b_Row_addAll 4 none) rm [.ref t0, .ref x1, .int x2] h0 r := by
  refine M_X.of (by decide) hG (fun p e s m below meth c H hc hR => ?_)
  have hx := hc.x
  have hb := hc.b
  obtain ⟨hm1, hm2, hm3, hm4⟩ := id hrm
  have hLo : Lo_k s0 [] := fun _ hq => absurd hq List.not_mem_nil
  have hl := lv_entry ([.ref t0, .ref x1, .int x2]) (n := 4) (Nat.le_of_ble_eq_true rfl)
  rw [lg_entry_eq]
  generalize (lg_sl ([.ref t0, .ref x1, .int x2]) ++ List.replicate (4 - (lg_sl ([.ref t0, .ref x1, .int x2])).length) Slot.unset).toArray = ls at hl ⊢
  have hl : lv_has ls 4 [(0, .ref t0), (1, .ref x1), (2, .int x2)] := hl
  generalize hle : ([] : List Loc) = locs at hLo ⊢
  unfold f_Row_addAll at heq
  refine lv_iconst (v := 0) hx hb d_Row_addAll_0 (by decide) ?_
  refine lv_istore_n (lv' := [(3, .int 0), (0, .ref t0), (1, .ref x1), (2, .int x2)]) hx hb d_Row_addAll_1 rfl hl (by decide) rfl (fun ls hl => ?_)
  refine W.widen (k := 0) (n := 0) (by omega) (by omega) ?_
  exact k_Row_addAll_b2 hc hrm fu_N t0 x1 x2 0 h0 H locs ls hR hLo (lv_sub hl [1, 2, 3, 0] rfl) heq
def rm_Row_addAll : Room := { frames := 1, cells := 0, slots := 0, locals := 21 }
theorem rk_Row_addAll : rm_Ok 0 0 1 21 rm_Row_addAll := ⟨Nat.le_refl _, Nat.le_refl _, Nat.le_refl _, Nat.le_refl _⟩
def f_Row_get_b22 (sv0 : Int32) (h0 : Hs_t) : Rs_t := re_I sv0 h0
def f_Row_get_b21 (h0 : Hs_t) : Rs_t := f_Row_get_b22 (-1) h0
def f_Row_get (t0 : Nat) (x1 : Int32) (h0 : Hs_t) : Rs_t := if x1 < 0 then (f_Row_get_b21 h0) else ((fd_I [1] 1 h0 t0).bind fun v1 => if v1 ≤ x1 then (f_Row_get_b21 h0) else ((fd_A [1] 0 h0 t0).bind fun v2 => (ar_I h0 v2 x1).bind fun v3 => f_Row_get_b22 v3 h0))
set_option maxRecDepth 100000 in
set_option maxHeartbeats 4000000 in
theorem k_Row_get_b22 {p : Program} {l : Launch} {e : Env} {s : State} {m : MethodId} {args : Array Value} {below : List Frame} {meth : Method} {c : Code} {s0 : State} {A0 : Array Value} {G : Gx_t} {r : Outcome × Hs_t} {rm : Room} (hc : Cx_t p s m meth c s0 A0 l G y_Row_get b_Row_get 2 (some .int) []) (hrm : rm_Ok 0 0 0 0 rm) : ∀ (sv0 : Int32) (h0 : Hs_t) (H : Heap) (locs : List Loc) (ls : Array Slot), Rp_h G s0.heap h0 H → Lo_k s0 locs → lv_has ls 2 [] → f_Row_get_b22 sv0 h0 = some r → W p l e rm s m args below meth c H locs 0 0 (xq_MQ G s0 below r s rm.cells rm.slots) (F0 m 22 ls [.int sv0]) := by
  have hx := hc.x
  have hb := hc.b
  obtain ⟨hm1, hm2, hm3, hm4⟩ := id hrm
  intro sv0 h0 H locs ls hR hLo hl heq
  unfold f_Row_get_b22 at heq
  exact x_iret hc hR hLo ⟨by omega, by omega⟩ heq d_Row_get_22
set_option maxRecDepth 100000 in
set_option maxHeartbeats 4000000 in
theorem k_Row_get_b21 {p : Program} {l : Launch} {e : Env} {s : State} {m : MethodId} {args : Array Value} {below : List Frame} {meth : Method} {c : Code} {s0 : State} {A0 : Array Value} {G : Gx_t} {r : Outcome × Hs_t} {rm : Room} (hc : Cx_t p s m meth c s0 A0 l G y_Row_get b_Row_get 2 (some .int) []) (hrm : rm_Ok 0 0 0 0 rm) : ∀  (h0 : Hs_t) (H : Heap) (locs : List Loc) (ls : Array Slot), Rp_h G s0.heap h0 H → Lo_k s0 locs → lv_has ls 2 [] → f_Row_get_b21  h0 = some r → W p l e rm s m args below meth c H locs 0 0 (xq_MQ G s0 below r s rm.cells rm.slots) (F0 m 21 ls []) := by
  have hx := hc.x
  have hb := hc.b
  obtain ⟨hm1, hm2, hm3, hm4⟩ := id hrm
  intro  h0 H locs ls hR hLo hl heq
  unfold f_Row_get_b21 at heq
  refine lv_iconst (v := (-1)) hx hb d_Row_get_21 (by decide) ?_
  refine W.widen (k := 0) (n := 0) (by omega) (by omega) ?_
  exact k_Row_get_b22 hc hrm (-1) h0 H locs ls hR hLo (lv_sub hl [] rfl) heq
set_option maxRecDepth 100000 in
set_option maxHeartbeats 4000000 in
theorem c_Row_get {l : Launch} {s0 : State} {A0 : Array Value} {G : Gx_t} (hG : G_0 l s0 A0 G) (rm : Room) (hrm : rm_Ok 0 0 0 0 rm) (t0 : Nat) (x1 : Int32) (h0 : Hs_t) (r : Outcome × Hs_t) (heq : f_Row_get t0 x1 h0 = some r) : M_X G s0 l y_Row_get (.code y_Row_get b_Row_get 2 (some .int)) rm [.ref t0, .int x1] h0 r := by
  refine M_X.of (by decide) hG (fun p e s m below meth c H hc hR => ?_)
  have hx := hc.x
  have hb := hc.b
  obtain ⟨hm1, hm2, hm3, hm4⟩ := id hrm
  have hLo : Lo_k s0 [] := fun _ hq => absurd hq List.not_mem_nil
  have hl := lv_entry ([.ref t0, .int x1]) (n := 2) (Nat.le_of_ble_eq_true rfl)
  rw [lg_entry_eq]
  generalize (lg_sl ([.ref t0, .int x1]) ++ List.replicate (2 - (lg_sl ([.ref t0, .int x1])).length) Slot.unset).toArray = ls at hl ⊢
  have hl : lv_has ls 2 [(0, .ref t0), (1, .int x1)] := hl
  generalize hle : ([] : List Loc) = locs at hLo ⊢
  unfold f_Row_get at heq
  refine lv_iload_n hx hb d_Row_get_0 rfl (lv_at hl 1 rfl) ?_
  refine lv_if_lt (tgt := 21) hx hb d_Row_get_1 rfl (fun hq => ?_) (fun hq => ?_)
  · rw [if_pos hq] at heq
    refine W.widen (k := 0) (n := 0) (by omega) (by omega) ?_
    exact k_Row_get_b21 hc hrm h0 H locs ls hR hLo (lv_sub hl [] rfl) heq
  · rw [if_neg hq] at heq
    refine lv_iload_n hx hb d_Row_get_4 rfl (lv_at hl 1 rfl) ?_
    refine lv_aload_n hx hb d_Row_get_5 rfl (lv_at hl 0 rfl) ?_
    refine x_gI hc hR fl_Row_15 heq d_Row_get_6 (fun v1 heq => ?_)
    refine lv_icmp_ge (tgt := 21) hx hb d_Row_get_9 rfl (fun hq => ?_) (fun hq => ?_)
    · rw [if_pos hq] at heq
      refine W.widen (k := 0) (n := 0) (by omega) (by omega) ?_
      exact k_Row_get_b21 hc hrm h0 H locs ls hR hLo (lv_sub hl [] rfl) heq
    · rw [if_neg hq] at heq
      refine lv_aload_n hx hb d_Row_get_12 rfl (lv_at hl 0 rfl) ?_
      refine x_gA hc hR fl_Row_9 heq d_Row_get_13 (fun v2 heq => ?_)
      refine lv_iload_n hx hb d_Row_get_16 rfl (lv_at hl 1 rfl) ?_
      refine x_aI hc hR heq d_Row_get_17 (fun v3 heq => ?_)
      refine lv_goto (tgt := 22) hx hb d_Row_get_18 rfl ?_
      refine W.widen (k := 0) (n := 0) (by omega) (by omega) ?_
      exact k_Row_get_b22 hc hrm v3 h0 H locs ls hR hLo (lv_sub hl [] rfl) heq
def rm_Row_get : Room := { frames := 0, cells := 0, slots := 0, locals := 0 }
theorem rk_Row_get : rm_Ok 0 0 0 0 rm_Row_get := ⟨Nat.le_refl _, Nat.le_refl _, Nat.le_refl _, Nat.le_refl _⟩
