theorem d_M_at_0 : decode b_M_at 0 = .ok (.aload_n 0, 1) := by decide +kernel
theorem d_M_at_1 : decode b_M_at 1 = .ok (.iconst 0, 1) := by decide +kernel
theorem d_M_at_2 : decode b_M_at 2 = .ok (.putfield 65, 3) := by decide +kernel
theorem d_M_at_5 : decode b_M_at 5 = .ok (.iload_n 1, 1) := by decide +kernel
theorem d_M_at_6 : decode b_M_at 6 = .ok (.ifCond .lt 22, 3) := by decide +kernel
theorem d_M_at_9 : decode b_M_at 9 = .ok (.iload_n 1, 1) := by decide +kernel
theorem d_M_at_10 : decode b_M_at 10 = .ok (.iload_n 2, 1) := by decide +kernel
theorem d_M_at_11 : decode b_M_at 11 = .ok (.ifCond .eq 10, 3) := by decide +kernel
theorem d_M_at_14 : decode b_M_at 14 = .ok (.aload_n 0, 1) := by decide +kernel
theorem d_M_at_15 : decode b_M_at 15 = .ok (.getfield 141, 3) := by decide +kernel
theorem d_M_at_18 : decode b_M_at 18 = .ok (.goto 7, 3) := by decide +kernel
theorem d_M_at_21 : decode b_M_at 21 = .ok (.aload_n 0, 1) := by decide +kernel
theorem d_M_at_22 : decode b_M_at 22 = .ok (.getfield 123, 3) := by decide +kernel
theorem d_M_at_25 : decode b_M_at 25 = .ok (.if_icmp .lt 5, 3) := by decide +kernel
theorem d_M_at_28 : decode b_M_at 28 = .ok (.iconst (-1), 1) := by decide +kernel
theorem d_M_at_29 : decode b_M_at 29 = .ok (.ireturn, 1) := by decide +kernel
theorem d_M_at_30 : decode b_M_at 30 = .ok (.iload_n 2, 1) := by decide +kernel
theorem d_M_at_31 : decode b_M_at 31 = .ok (.ifCond .eq 12, 3) := by decide +kernel
theorem d_M_at_34 : decode b_M_at 34 = .ok (.aload_n 0, 1) := by decide +kernel
theorem d_M_at_35 : decode b_M_at 35 = .ok (.getfield 62, 3) := by decide +kernel
theorem d_M_at_38 : decode b_M_at 38 = .ok (.iload_n 1, 1) := by decide +kernel
theorem d_M_at_39 : decode b_M_at 39 = .ok (.iaload, 1) := by decide +kernel
theorem d_M_at_40 : decode b_M_at 40 = .ok (.goto 9, 3) := by decide +kernel
theorem d_M_at_43 : decode b_M_at 43 = .ok (.aload_n 0, 1) := by decide +kernel
theorem d_M_at_44 : decode b_M_at 44 = .ok (.getfield 59, 3) := by decide +kernel
theorem d_M_at_47 : decode b_M_at 47 = .ok (.iload_n 1, 1) := by decide +kernel
theorem d_M_at_48 : decode b_M_at 48 = .ok (.iaload, 1) := by decide +kernel
theorem d_M_at_49 : decode b_M_at 49 = .ok (.ireturn, 1) := by decide +kernel
theorem md_M_at : md_Ok y_M_at (.code y_M_at b_M_at 3 (some .int)) 3 := ⟨wd_944, wd_5, ⟨by decide, by decide⟩, Or.inl ⟨_, _, rfl⟩⟩
theorem ml_M_at : (parseMethodDescriptor y_M_at.desc).map (fun d => d.parameters.length) = some 2 := by decide +kernel
def f_M_at_b28 (h0 : Hs_t) : Rs_t := re_I (-1) h0
def f_M_at_b49 (sv0 : Int32) (h0 : Hs_t) : Rs_t := re_I sv0 h0
def f_M_at_b25 (t0 : Nat) (x1 : Int32) (x2 : Int32) (sv0 : Int32) (sv1 : Int32) (h0 : Hs_t) : Rs_t := if sv1 < sv0 then (if x2 = 0 then ((fd_A [8] 24 h0 t0).bind fun v3 => (ar_I h0 v3 x1).bind fun v4 => f_M_at_b49 v4 h0) else ((fd_A [8] 26 h0 t0).bind fun v5 => (ar_I h0 v5 x1).bind fun v6 => f_M_at_b49 v6 h0)) else (f_M_at_b28 h0)
def f_M_at (t0 : Nat) (x1 : Int32) (x2 : Int32) (h0 : Hs_t) : Rs_t := (pt_V [8] 0 h0 t0 (.int 0)).bind fun h1 => if x1 < 0 then (f_M_at_b28 h1) else (if x2 = 0 then ((fd_I [8] 25 h1 t0).bind fun v1 => f_M_at_b25 t0 x1 x2 v1 x1 h1) else ((fd_I [8] 27 h1 t0).bind fun v2 => f_M_at_b25 t0 x1 x2 v2 x1 h1))
set_option maxRecDepth 100000 in
set_option maxHeartbeats 4000000 in
theorem k_M_at_b28 {p : Program} {l : Launch} {e : Env} {s : State} {m : MethodId} {args : Array Value} {below : List Frame} {meth : Method} {c : Code} {s0 : State} {A0 : Array Value} {G : Gx_t} {r : Outcome × Hs_t} {rm : Room} (hc : Cx_t p s m meth c s0 A0 l G y_M_at b_M_at 3 (some .int) []) (hrm : rm_Ok 0 0 0 0 rm) : ∀  (h0 : Hs_t) (H : Heap) (locs : List Loc) (ls : Array Slot), Rp_h G s0.heap h0 H → Lo_k s0 locs → lv_has ls 3 [] → f_M_at_b28  h0 = some r → W p l e rm s m args below meth c H locs 0 0 (xq_MQ G s0 below r s rm.cells rm.slots) (F0 m 28 ls []) := by
  have hx := hc.x
  have hb := hc.b
  obtain ⟨hm1, hm2, hm3, hm4⟩ := id hrm
  intro  h0 H locs ls hR hLo hl heq
  unfold f_M_at_b28 at heq
  refine lv_iconst (v := (-1)) hx hb d_M_at_28 (by decide) ?_
  exact x_iret hc hR hLo ⟨by omega, by omega⟩ heq d_M_at_29
set_option maxRecDepth 100000 in
set_option maxHeartbeats 4000000 in
theorem k_M_at_b49 {p : Program} {l : Launch} {e : Env} {s : State} {m : MethodId} {args : Array Value} {below : List Frame} {meth : Method} {c : Code} {s0 : State} {A0 : Array Value} {G : Gx_t} {r : Outcome × Hs_t} {rm : Room} (hc : Cx_t p s m meth c s0 A0 l G y_M_at b_M_at 3 (some .int) []) (hrm : rm_Ok 0 0 0 0 rm) : ∀ (sv0 : Int32) (h0 : Hs_t) (H : Heap) (locs : List Loc) (ls : Array Slot), Rp_h G s0.heap h0 H → Lo_k s0 locs → lv_has ls 3 [] → f_M_at_b49 sv0 h0 = some r → W p l e rm s m args below meth c H locs 0 0 (xq_MQ G s0 below r s rm.cells rm.slots) (F0 m 49 ls [.int sv0]) := by
  have hx := hc.x
  have hb := hc.b
  obtain ⟨hm1, hm2, hm3, hm4⟩ := id hrm
  intro sv0 h0 H locs ls hR hLo hl heq
  unfold f_M_at_b49 at heq
  exact x_iret hc hR hLo ⟨by omega, by omega⟩ heq d_M_at_49
set_option maxRecDepth 100000 in
set_option maxHeartbeats 4000000 in
theorem k_M_at_b25 {p : Program} {l : Launch} {e : Env} {s : State} {m : MethodId} {args : Array Value} {below : List Frame} {meth : Method} {c : Code} {s0 : State} {A0 : Array Value} {G : Gx_t} {r : Outcome × Hs_t} {rm : Room} (hc : Cx_t p s m meth c s0 A0 l G y_M_at b_M_at 3 (some .int) []) (hrm : rm_Ok 0 0 0 0 rm) : ∀ (t0 : Nat) (x1 : Int32) (x2 : Int32) (sv0 : Int32) (sv1 : Int32) (h0 : Hs_t) (H : Heap) (locs : List Loc) (ls : Array Slot), Rp_h G s0.heap h0 H → Lo_k s0 locs → lv_has ls 3 [(0, .ref t0), (1, .int x1), (2, .int x2)] → f_M_at_b25 t0 x1 x2 sv0 sv1 h0 = some r → W p l e rm s m args below meth c H locs 0 0 (xq_MQ G s0 below r s rm.cells rm.slots) (F0 m 25 ls [.int sv0, .int sv1]) := by
  have hx := hc.x
  have hb := hc.b
  obtain ⟨hm1, hm2, hm3, hm4⟩ := id hrm
  intro t0 x1 x2 sv0 sv1 h0 H locs ls hR hLo hl heq
  unfold f_M_at_b25 at heq
  refine lv_icmp_lt (tgt := 30) hx hb d_M_at_25 rfl (fun hq => ?_) (fun hq => ?_)
  · rw [if_pos hq] at heq
    refine lv_iload_n hx hb d_M_at_30 rfl (lv_at hl 2 rfl) ?_
    refine lv_if_eq (tgt := 43) hx hb d_M_at_31 rfl (fun hq => ?_) (fun hq => ?_)
    · rw [if_pos hq] at heq
      refine lv_aload_n hx hb d_M_at_43 rfl (lv_at hl 0 rfl) ?_
      refine x_gA hc hR fl_M_59 heq d_M_at_44 (fun v3 heq => ?_)
      refine lv_iload_n hx hb d_M_at_47 rfl (lv_at hl 1 rfl) ?_
      refine x_aI hc hR heq d_M_at_48 (fun v4 heq => ?_)
      refine W.widen (k := 0) (n := 0) (by omega) (by omega) ?_
      exact k_M_at_b49 hc hrm v4 h0 H locs ls hR hLo (lv_sub hl [] rfl) heq
    · rw [if_neg hq] at heq
      refine lv_aload_n hx hb d_M_at_34 rfl (lv_at hl 0 rfl) ?_
      refine x_gA hc hR fl_M_62 heq d_M_at_35 (fun v5 heq => ?_)
      refine lv_iload_n hx hb d_M_at_38 rfl (lv_at hl 1 rfl) ?_
      refine x_aI hc hR heq d_M_at_39 (fun v6 heq => ?_)
      refine lv_goto (tgt := 49) hx hb d_M_at_40 rfl ?_
      refine W.widen (k := 0) (n := 0) (by omega) (by omega) ?_
      exact k_M_at_b49 hc hrm v6 h0 H locs ls hR hLo (lv_sub hl [] rfl) heq
  · rw [if_neg hq] at heq
    refine W.widen (k := 0) (n := 0) (by omega) (by omega) ?_
    exact k_M_at_b28 hc hrm h0 H locs ls hR hLo (lv_sub hl [] rfl) heq
set_option maxRecDepth 100000 in
set_option maxHeartbeats 4000000 in
theorem c_M_at {l : Launch} {s0 : State} {A0 : Array Value} {G : Gx_t} (hG : G_0 l s0 A0 G) (rm : Room) (hrm : rm_Ok 0 0 0 0 rm) (t0 : Nat) (x1 : Int32) (x2 : Int32) (h0 : Hs_t) (r : Outcome × Hs_t) (heq : f_M_at t0 x1 x2 h0 = some r) : M_X G s0 l y_M_at (.code y_M_at b_M_at 3 (some .int)) rm [.ref t0, .int x1, .int x2] h0 r := by
  refine M_X.of (by decide) hG (fun p e s m below meth c H hc hR => ?_)
  have hx := hc.x
  have hb := hc.b
  obtain ⟨hm1, hm2, hm3, hm4⟩ := id hrm
  have hLo : Lo_k s0 [] := fun _ hq => absurd hq List.not_mem_nil
  have hl := lv_entry ([.ref t0, .int x1, .int x2]) (n := 3) (Nat.le_of_ble_eq_true rfl)
  rw [lg_entry_eq]
  generalize (lg_sl ([.ref t0, .int x1, .int x2]) ++ List.replicate (3 - (lg_sl ([.ref t0, .int x1, .int x2])).length) Slot.unset).toArray = ls at hl ⊢
  have hl : lv_has ls 3 [(0, .ref t0), (1, .int x1), (2, .int x2)] := hl
  generalize hle : ([] : List Loc) = locs at hLo ⊢
  unfold f_M_at at heq
  refine lv_aload_n hx hb d_M_at_0 rfl (lv_at hl 0 rfl) ?_
  refine lv_iconst (v := 0) hx hb d_M_at_1 (by decide) ?_
  refine x_pV hc hR hLo fl_M_65 (Or.inl rfl) rfl rfl heq d_M_at_2 (fun h1 H locs hR hLo heq => ?_)
  refine lv_iload_n hx hb d_M_at_5 rfl (lv_at hl 1 rfl) ?_
  refine lv_if_lt (tgt := 28) hx hb d_M_at_6 rfl (fun hq => ?_) (fun hq => ?_)
  · rw [if_pos hq] at heq
    refine W.widen (k := 0) (n := 0) (by omega) (by omega) ?_
    exact k_M_at_b28 hc hrm h1 H locs ls hR hLo (lv_sub hl [] rfl) heq
  · rw [if_neg hq] at heq
    refine lv_iload_n hx hb d_M_at_9 rfl (lv_at hl 1 rfl) ?_
    refine lv_iload_n hx hb d_M_at_10 rfl (lv_at hl 2 rfl) ?_
    refine lv_if_eq (tgt := 21) hx hb d_M_at_11 rfl (fun hq => ?_) (fun hq => ?_)
    · rw [if_pos hq] at heq
      refine lv_aload_n hx hb d_M_at_21 rfl (lv_at hl 0 rfl) ?_
      refine x_gI hc hR fl_M_123 heq d_M_at_22 (fun v1 heq => ?_)
      refine W.widen (k := 0) (n := 0) (by omega) (by omega) ?_
      exact k_M_at_b25 hc hrm t0 x1 x2 v1 x1 h1 H locs ls hR hLo (lv_sub hl [0, 1, 2] rfl) heq
    · rw [if_neg hq] at heq
      refine lv_aload_n hx hb d_M_at_14 rfl (lv_at hl 0 rfl) ?_
      refine x_gI hc hR fl_M_141 heq d_M_at_15 (fun v2 heq => ?_)
      refine lv_goto (tgt := 25) hx hb d_M_at_18 rfl ?_
      refine W.widen (k := 0) (n := 0) (by omega) (by omega) ?_
      exact k_M_at_b25 hc hrm t0 x1 x2 v2 x1 h1 H locs ls hR hLo (lv_sub hl [0, 1, 2] rfl) heq
def rm_M_at : Room := { frames := 0, cells := 0, slots := 0, locals := 0 }
theorem rk_M_at : rm_Ok 0 0 0 0 rm_M_at := ⟨Nat.le_refl _, Nat.le_refl _, Nat.le_refl _, Nat.le_refl _⟩
