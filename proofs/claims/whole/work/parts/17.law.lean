def fl_N : Nat := 600
theorem nw_L_8 : nw_Ok "StreamTowerLaw" 8 0 10 [.null, .null, .null, .null, .null, .null, .int 0, .int 0, .int 0, .int 0] := ⟨_, _, ty_0, rfl, wd_21, wd_22, wd_1, tyk_0, fun j hj => match j, hj with | 0, _ => rfl | 1, _ => rfl | 2, _ => rfl | 3, _ => rfl | 4, _ => rfl | 5, _ => rfl | 6, _ => rfl | 7, _ => rfl | 8, _ => rfl | 9, _ => rfl⟩
theorem nw_L_59 : nw_Ok "StreamTowerLaw" 59 8 28 [.int 0, .null, .null, .null, .int 0, .int 0, .int 0, .null, .null, .null, .null, .null, .null, .null, .null, .null, .null, .null, .null, .null, .int 0, .int 0, .int 0, .int 0, .null, .int 0, .null, .int 0] := ⟨_, _, ty_8, rfl, wd_706, wd_707, wd_5, tyk_8, fun j hj => match j, hj with | 0, _ => rfl | 1, _ => rfl | 2, _ => rfl | 3, _ => rfl | 4, _ => rfl | 5, _ => rfl | 6, _ => rfl | 7, _ => rfl | 8, _ => rfl | 9, _ => rfl | 10, _ => rfl | 11, _ => rfl | 12, _ => rfl | 13, _ => rfl | 14, _ => rfl | 15, _ => rfl | 16, _ => rfl | 17, _ => rfl | 18, _ => rfl | 19, _ => rfl | 20, _ => rfl | 21, _ => rfl | 22, _ => rfl | 23, _ => rfl | 24, _ => rfl | 25, _ => rfl | 26, _ => rfl | 27, _ => rfl | n + 28, hj => absurd hj (by omega)⟩
def f_L_law_b23 (scL : Nat) (scX : Nat → Int32) : Nat → Nat → Nat → Nat → Int32 → Hs_t → Rs_t
  | 0, _, _, _, _, _ => none
  | n + 1, x1, x2, x3, x4, h0 => if ((Int32.ofNat scL) - 3) < x4 then (re_I 1 h0) else ((sc_A scL scX x4).bind fun v1 => if (v1 &&& 31) = 0 then ((sc_A scL scX (x4 + 1)).bind fun v85 => (sc_A scL scX (x4 + 2)).bind fun v86 => bn_I (f_L_feed x1 v85 v86 x3 h0) (fun v87 h61 => (sc_A scL scX (x4 + 1)).bind fun v88 => (sc_A scL scX (x4 + 2)).bind fun v89 => (ck_T [8] h61 x2).bind fun _ => bn_I (f_M_feed x2 v88 v89 h61) (fun v90 h62 => (ck_T [8] h62 x2).bind fun _ => bn_I (f_M_thrown x2 h62) (fun v91 h63 => if v91 = v87 then (if v87 = 0 then ((ar_L h63 x3 0).bind fun v92 => if (lg_cmp v92 (v90 : Int32).toInt64) = 0 then ((f_L_law_b23 scL scX n) x1 x2 x3 (x4 + 3) h63) else (none)) else ((f_L_law_b23 scL scX n) x1 x2 x3 (x4 + 3) h63)) else (none))))) else (if (v1 &&& 31) = 1 then ((ck_T [0] h0 x1).bind fun _ => bn_V (f_T_portion x1 h0) (fun h59 => (ck_T [8] h59 x2).bind fun _ => bn_V (f_M_portion x2 h59) (fun h60 => (f_L_law_b23 scL scX n) x1 x2 x3 (x4 + 3) h60))) else (if (v1 &&& 31) = 2 then ((sc_A scL scX (x4 + 1)).bind fun v81 => (ck_T [0] h0 x1).bind fun _ => bn_I (f_T_breakAt x1 v81 h0) (fun v82 h57 => (sc_A scL scX (x4 + 1)).bind fun v83 => (ck_T [8] h57 x2).bind fun _ => bn_I (f_M_breakAt x2 v83 h57) (fun v84 h58 => if v82 = v84 then ((f_L_law_b23 scL scX n) x1 x2 x3 (x4 + 3) h58) else (none)))) else (if (v1 &&& 31) = 3 then ((sc_A scL scX (x4 + 1)).bind fun v73 => (sc_A scL scX (x4 + 2)).bind fun v74 => bn_I (f_L_push x1 v73 v74 x3 h0) (fun v75 h54 => (sc_A scL scX (x4 + 1)).bind fun v76 => (sc_A scL scX (x4 + 2)).bind fun v77 => (ck_T [8] h54 x2).bind fun _ => bn_I (f_M_push x2 v76 v77 h54) (fun v78 h55 => (ck_T [8] h55 x2).bind fun _ => bn_I (f_M_thrown x2 h55) (fun v79 h56 => if v79 = v75 then (if v75 = 0 then ((ar_L h56 x3 0).bind fun v80 => if (lg_cmp v80 (v78 : Int32).toInt64) = 0 then ((f_L_law_b23 scL scX n) x1 x2 x3 (x4 + 3) h56) else (none)) else ((f_L_law_b23 scL scX n) x1 x2 x3 (x4 + 3) h56)) else (none))))) else (if (v1 &&& 31) = 4 then (bn_I (f_L_read x1 x3 h0) (fun v69 h51 => (ck_T [8] h51 x2).bind fun _ => bn_I (f_M_read x2 h51) (fun v70 h52 => (ck_T [8] h52 x2).bind fun _ => bn_I (f_M_thrown x2 h52) (fun v71 h53 => if v71 = v69 then (if v69 = 0 then ((ar_L h53 x3 0).bind fun v72 => if (lg_cmp v72 (v70 : Int32).toInt64) = 0 then ((f_L_law_b23 scL scX n) x1 x2 x3 (x4 + 3) h53) else (none)) else ((f_L_law_b23 scL scX n) x1 x2 x3 (x4 + 3) h53)) else (none))))) else (if (v1 &&& 31) = 5 then ((sc_A scL scX (x4 + 1)).bind fun v63 => bn_I (f_L_some x1 v63 x3 h0) (fun v64 h48 => (sc_A scL scX (x4 + 1)).bind fun v65 => (ck_T [8] h48 x2).bind fun _ => bn_I (f_M_some x2 v65 h48) (fun v66 h49 => (ck_T [8] h49 x2).bind fun _ => bn_I (f_M_thrown x2 h49) (fun v67 h50 => if v67 = v64 then (if v64 = 0 then ((ar_L h50 x3 0).bind fun v68 => if (lg_cmp v68 (v66 : Int32).toInt64) = 0 then ((f_L_law_b23 scL scX n) x1 x2 x3 (x4 + 3) h50) else (none)) else ((f_L_law_b23 scL scX n) x1 x2 x3 (x4 + 3) h50)) else (none))))) else (if (v1 &&& 31) = 6 then ((sc_A scL scX (x4 + 1)).bind fun v59 => bn_I (f_L_full x1 v59 h0) (fun v60 h45 => (sc_A scL scX (x4 + 1)).bind fun v61 => (ck_T [8] h45 x2).bind fun _ => bn_V (f_M_full x2 v61 h45) (fun h46 => (ck_T [8] h46 x2).bind fun _ => bn_I (f_M_thrown x2 h46) (fun v62 h47 => if v62 = v60 then ((f_L_law_b23 scL scX n) x1 x2 x3 (x4 + 3) h47) else (none))))) else (if (v1 &&& 31) = 7 then ((sc_A scL scX (x4 + 1)).bind fun v53 => bn_I (f_L_skip x1 v53 x3 h0) (fun v54 h42 => (sc_A scL scX (x4 + 1)).bind fun v55 => (ck_T [8] h42 x2).bind fun _ => bn_I (f_M_skip x2 v55 h42) (fun v56 h43 => (ck_T [8] h43 x2).bind fun _ => bn_I (f_M_thrown x2 h43) (fun v57 h44 => if v57 = v54 then (if v54 = 0 then ((ar_L h44 x3 0).bind fun v58 => if (lg_cmp v58 (v56 : Int32).toInt64) = 0 then ((f_L_law_b23 scL scX n) x1 x2 x3 (x4 + 3) h44) else (none)) else ((f_L_law_b23 scL scX n) x1 x2 x3 (x4 + 3) h44)) else (none))))) else (if (v1 &&& 31) = 8 then ((sc_A scL scX (x4 + 1)).bind fun v47 => bn_I (f_L_number x1 v47 x3 h0) (fun v48 h39 => (sc_A scL scX (x4 + 1)).bind fun v49 => (ck_T [8] h39 x2).bind fun _ => bn_L (f_M_number x2 v49 h39) (fun v50 h40 => (ck_T [8] h40 x2).bind fun _ => bn_I (f_M_thrown x2 h40) (fun v51 h41 => if v51 = v48 then (if v48 = 0 then ((ar_L h41 x3 0).bind fun v52 => if (lg_cmp v52 v50) = 0 then ((f_L_law_b23 scL scX n) x1 x2 x3 (x4 + 3) h41) else (none)) else ((f_L_law_b23 scL scX n) x1 x2 x3 (x4 + 3) h41)) else (none))))) else (if (v1 &&& 31) = 9 then (bn_I (f_L_text x1 x3 h0) (fun v43 h36 => (ck_T [8] h36 x2).bind fun _ => bn_I (f_M_text x2 h36) (fun v44 h37 => (ck_T [8] h37 x2).bind fun _ => bn_I (f_M_thrown x2 h37) (fun v45 h38 => if v45 = v43 then (if v43 = 0 then ((ar_L h38 x3 0).bind fun v46 => if (lg_cmp v46 (v44 : Int32).toInt64) = 0 then ((f_L_law_b23 scL scX n) x1 x2 x3 (x4 + 3) h38) else (none)) else ((f_L_law_b23 scL scX n) x1 x2 x3 (x4 + 3) h38)) else (none))))) else (if (v1 &&& 31) = 10 then (bn_I (f_L_line x1 x3 h0) (fun v39 h33 => (ck_T [8] h33 x2).bind fun _ => bn_I (f_M_line x2 h33) (fun v40 h34 => (ck_T [8] h34 x2).bind fun _ => bn_I (f_M_thrown x2 h34) (fun v41 h35 => if v41 = v39 then (if v39 = 0 then ((ar_L h35 x3 0).bind fun v42 => if (lg_cmp v42 (v40 : Int32).toInt64) = 0 then ((f_L_law_b23 scL scX n) x1 x2 x3 (x4 + 3) h35) else (none)) else ((f_L_law_b23 scL scX n) x1 x2 x3 (x4 + 3) h35)) else (none))))) else (if (v1 &&& 31) = 11 then ((sc_A scL scX (x4 + 1)).bind fun v35 => bn_I (f_L_mark x1 v35 h0) (fun v36 h30 => (sc_A scL scX (x4 + 1)).bind fun v37 => (ck_T [8] h30 x2).bind fun _ => bn_V (f_M_mark x2 v37 h30) (fun h31 => (ck_T [8] h31 x2).bind fun _ => bn_I (f_M_thrown x2 h31) (fun v38 h32 => if v38 = v36 then ((f_L_law_b23 scL scX n) x1 x2 x3 (x4 + 3) h32) else (none))))) else (if (v1 &&& 31) = 12 then (bn_I (f_L_reset x1 h0) (fun v33 h27 => (ck_T [8] h27 x2).bind fun _ => bn_V (f_M_reset x2 h27) (fun h28 => (ck_T [8] h28 x2).bind fun _ => bn_I (f_M_thrown x2 h28) (fun v34 h29 => if v34 = v33 then ((f_L_law_b23 scL scX n) x1 x2 x3 (x4 + 3) h29) else (none))))) else (if (v1 &&& 31) = 13 then ((sc_A scL scX (x4 + 1)).bind fun v29 => bn_I (f_L_unread x1 v29 h0) (fun v30 h24 => (sc_A scL scX (x4 + 1)).bind fun v31 => (ck_T [8] h24 x2).bind fun _ => bn_V (f_M_unread x2 v31 h24) (fun h25 => (ck_T [8] h25 x2).bind fun _ => bn_I (f_M_thrown x2 h25) (fun v32 h26 => if v32 = v30 then ((f_L_law_b23 scL scX n) x1 x2 x3 (x4 + 3) h26) else (none))))) else (if (v1 &&& 31) = 14 then ((ck_T [0] h0 x1).bind fun _ => bn_I (f_T_available x1 h0) (fun v27 h22 => (ck_T [8] h22 x2).bind fun _ => bn_I (f_M_available x2 h22) (fun v28 h23 => if v27 = v28 then ((f_L_law_b23 scL scX n) x1 x2 x3 (x4 + 3) h23) else (none)))) else (if (v1 &&& 31) = 15 then ((ck_T [0] h0 x1).bind fun _ => bn_V (f_T_close x1 h0) (fun h20 => (ck_T [8] h20 x2).bind fun _ => bn_V (f_M_close x2 h20) (fun h21 => (f_L_law_b23 scL scX n) x1 x2 x3 (x4 + 3) h21))) else (if (v1 &&& 31) = 16 then ((sc_A scL scX (x4 + 1)).bind fun v23 => (ck_T [0] h0 x1).bind fun _ => bn_I (f_T_about x1 v23 h0) (fun v24 h18 => (sc_A scL scX (x4 + 1)).bind fun v25 => (ck_T [8] h18 x2).bind fun _ => bn_I (f_M_about x2 v25 h18) (fun v26 h19 => if v24 = v26 then ((f_L_law_b23 scL scX n) x1 x2 x3 (x4 + 3) h19) else (none)))) else (if (v1 &&& 31) = 17 then ((sc_A scL scX (x4 + 1)).bind fun v14 => if v14 = 0 then ((ck_T [0] h0 x1).bind fun _ => bn_I (f_T_size x1 0 h0) (fun v15 h12 => (sc_A scL scX (x4 + 1)).bind fun v16 => if v16 = 0 then ((ck_T [8] h12 x2).bind fun _ => bn_I (f_M_size x2 0 h12) (fun v17 h13 => if v15 = v17 then ((f_L_law_b23 scL scX n) x1 x2 x3 (x4 + 3) h13) else (none))) else ((ck_T [8] h12 x2).bind fun _ => bn_I (f_M_size x2 1 h12) (fun v18 h14 => if v15 = v18 then ((f_L_law_b23 scL scX n) x1 x2 x3 (x4 + 3) h14) else (none))))) else ((ck_T [0] h0 x1).bind fun _ => bn_I (f_T_size x1 1 h0) (fun v19 h15 => (sc_A scL scX (x4 + 1)).bind fun v20 => if v20 = 0 then ((ck_T [8] h15 x2).bind fun _ => bn_I (f_M_size x2 0 h15) (fun v21 h16 => if v19 = v21 then ((f_L_law_b23 scL scX n) x1 x2 x3 (x4 + 3) h16) else (none))) else ((ck_T [8] h15 x2).bind fun _ => bn_I (f_M_size x2 1 h15) (fun v22 h17 => if v19 = v22 then ((f_L_law_b23 scL scX n) x1 x2 x3 (x4 + 3) h17) else (none)))))) else (if (v1 &&& 31) = 18 then ((sc_A scL scX (x4 + 1)).bind fun v2 => (sc_A scL scX (x4 + 2)).bind fun v3 => if v3 = 0 then ((ck_T [0] h0 x1).bind fun _ => bn_I (f_T_at x1 v2 0 h0) (fun v4 h6 => (sc_A scL scX (x4 + 1)).bind fun v5 => (sc_A scL scX (x4 + 2)).bind fun v6 => if v6 = 0 then ((ck_T [8] h6 x2).bind fun _ => bn_I (f_M_at x2 v5 0 h6) (fun v7 h7 => if v4 = v7 then ((f_L_law_b23 scL scX n) x1 x2 x3 (x4 + 3) h7) else (none))) else ((ck_T [8] h6 x2).bind fun _ => bn_I (f_M_at x2 v5 1 h6) (fun v8 h8 => if v4 = v8 then ((f_L_law_b23 scL scX n) x1 x2 x3 (x4 + 3) h8) else (none))))) else ((ck_T [0] h0 x1).bind fun _ => bn_I (f_T_at x1 v2 1 h0) (fun v9 h9 => (sc_A scL scX (x4 + 1)).bind fun v10 => (sc_A scL scX (x4 + 2)).bind fun v11 => if v11 = 0 then ((ck_T [8] h9 x2).bind fun _ => bn_I (f_M_at x2 v10 0 h9) (fun v12 h10 => if v9 = v12 then ((f_L_law_b23 scL scX n) x1 x2 x3 (x4 + 3) h10) else (none))) else ((ck_T [8] h9 x2).bind fun _ => bn_I (f_M_at x2 v10 1 h9) (fun v13 h11 => if v9 = v13 then ((f_L_law_b23 scL scX n) x1 x2 x3 (x4 + 3) h11) else (none)))))) else ((f_L_law_b23 scL scX n) x1 x2 x3 (x4 + 3) h0))))))))))))))))))))
def f_L_law (scL : Nat) (scX : Nat → Int32) (h0 : Hs_t) : Rs_t := (nw_O 0 [.null, .null, .null, .null, .null, .null, .int 0, .int 0, .int 0, .int 0] h0).bind fun h1 => bn_V (f_T_init h0.1 h1) (fun h2 => (nw_O 8 [.int 0, .null, .null, .null, .int 0, .int 0, .int 0, .null, .null, .null, .null, .null, .null, .null, .null, .null, .null, .null, .null, .null, .int 0, .int 0, .int 0, .int 0, .null, .int 0, .null, .int 0] h2).bind fun h3 => bn_V (f_M_init h2.1 h3) (fun h4 => (nw_L 1 1 h4).bind fun h5 => f_L_law_b23 scL scX fl_N h0.1 h2.1 h4.1 0 h5))
set_option maxRecDepth 100000 in
set_option maxHeartbeats 4000000 in
theorem k_L_law_b23 {p : Program} {l : Launch} {e : Env} {s : State} {m : MethodId} {b : Nat} {below : List Frame} {meth : Method} {c : Code} {A0 : Array Value} {G : Gx_t} {r : Outcome × Hs_t} {scL : Nat} {scX : Nat → Int32} (hc : Cx_t p s m meth c s A0 l G x code 8 ret []) (hX : sc_Ok b scL scX s) : ∀ (n : Nat) (x1 : Nat) (x2 : Nat) (x3 : Nat) (x4 : Int32) (h0 : Hs_t) (H : Heap) (locs : List Loc) (ls : Array Slot) (cN sN : Nat), Rp_h G s.heap h0 H → Lo_k s locs → lv_has ls 8 [(0, .ref b), (1, .ref x1), (2, .ref x2), (3, .ref x3), (4, .int x4)] → cN + 4 * n ≤ 601024 → sN + 56 * n ≤ 7293034 → f_L_law_b23 scL scX n x1 x2 x3 x4 h0 = some r → W p l e room_1 s m #[Value.ref b] below meth c H locs cN sN (lw_Z below #[Value.ref b] s) (F0 m 23 ls []) := by
  have hx := hc.x
  have hb := hc.b
  have hm1 : room_1.cells = 601024 := rfl
  have hm2 : room_1.slots = 7293034 := rfl
  have hm3 : room_1.frames = 2048 := rfl
  have hm4 : room_1.locals = 84000 := rfl
  intro n
  induction n with
  | zero =>
    intro x1 x2 x3 x4 h0 H locs ls cN sN hR hLo hl hcn hsn heq
    unfold f_L_law_b23 at heq
    cases heq
  | succ n hr23 =>
    intro x1 x2 x3 x4 h0 H locs ls cN sN hR hLo hl hcn hsn heq
    unfold f_L_law_b23 at heq
    refine lv_iload hx hb d_L_law_23 (lv_at hl 4 rfl) ?_
    refine lv_aload_n hx hb d_L_law_25 rfl (lv_at hl 0 rfl) ?_
    refine x_scl hc hR hX d_L_law_26 ?_
    refine lv_iconst (v := 3) hx hb d_L_law_27 (by decide) ?_
    refine lv_isub hx hb d_L_law_28 ?_
    refine lv_icmp_gt (tgt := 880) hx hb d_L_law_29 rfl (fun hq => ?_) (fun hq => ?_)
    · rw [if_pos hq] at heq
      refine lv_iconst (v := 1) hx hb d_L_law_880 (by decide) ?_
      exact x_lend hc hLo d_L_law_881 (by omega) (by omega)
    · rw [if_neg hq] at heq
      refine lv_aload_n hx hb d_L_law_32 rfl (lv_at hl 0 rfl) ?_
      refine lv_iload hx hb d_L_law_33 (lv_at hl 4 rfl) ?_
      refine x_sc hc hR hX heq d_L_law_35 (fun v1 heq => ?_)
      refine lv_bipush (v := 31) hx hb d_L_law_36 (by decide) ?_
      refine lv_iand hx hb d_L_law_38 ?_
      by_cases hk0 : (v1 &&& 31) = 0
      · rw [if_pos hk0] at heq
        refine lv_tableIn (off := 89) (tgt := 128) hx hb d_L_law_39 (by rw [hk0]; decide) (by rw [hk0]; decide) (by rw [hk0]; rfl) rfl ?_
        refine lv_aload_n hx hb d_L_law_128 rfl (lv_at hl 1 rfl) ?_
        refine lv_aload_n hx hb d_L_law_129 rfl (lv_at hl 0 rfl) ?_
        refine lv_iload hx hb d_L_law_130 (lv_at hl 4 rfl) ?_
        refine lv_iconst (v := 1) hx hb d_L_law_132 (by decide) ?_
        refine lv_iadd hx hb d_L_law_133 ?_
        refine x_sc hc hR hX heq d_L_law_134 (fun v93 heq => ?_)
        refine lv_aload_n hx hb d_L_law_135 rfl (lv_at hl 0 rfl) ?_
        refine lv_iload hx hb d_L_law_136 (lv_at hl 4 rfl) ?_
        refine lv_iconst (v := 2) hx hb d_L_law_138 (by decide) ?_
        refine lv_iadd hx hb d_L_law_139 ?_
        refine x_sc hc hR hX heq d_L_law_140 (fun v94 heq => ?_)
        refine lv_aload_n hx hb d_L_law_141 rfl (lv_at hl 3 rfl) ?_
        refine x_nI (mc := 1) (ms := 6) (st := []) hLo heq (fun r9 h9 => x_runS hc (c_L_feed hc.g rm_L_feed rk_L_feed _ _ _ _ _ _ h9) md_L_feed hR wd_201 wd_202 hl.1 ml_L_feed rfl (Nat.le_of_ble_eq_true rfl) d_L_law_142 ⟨by show 7 + 1 ≤ _; omega, by show 8 + (5 + 11) + (104) ≤ _; omega⟩ ⟨by show cN + 0 + 1 ≤ _; omega, by show sN + 0 + 6 ≤ _; omega⟩) (fun v95 h64 H locs hR hLo heq => ?_)
        refine lv_istore (lv' := [(5, .int v95), (0, .ref b), (1, .ref x1), (2, .ref x2), (3, .ref x3), (4, .int x4)]) hx hb d_L_law_145 hl (by decide) rfl (fun ls hl => ?_)
        refine lv_aload_n hx hb d_L_law_147 rfl (lv_at hl 3 rfl) ?_
        refine lv_aload_n hx hb d_L_law_148 rfl (lv_at hl 1 rfl) ?_
        refine lv_iload hx hb d_L_law_149 (lv_at hl 5 rfl) ?_
        refine lv_iconst (v := 1) hx hb d_L_law_151 (by decide) ?_
        refine lv_iadd hx hb d_L_law_152 ?_
        refine x_sc hc hR hX heq d_L_law_153 (fun v96 heq => ?_)
        refine lv_aload_n hx hb d_L_law_154 rfl (lv_at hl 1 rfl) ?_
        refine lv_iload hx hb d_L_law_155 (lv_at hl 5 rfl) ?_
        refine lv_iconst (v := 2) hx hb d_L_law_157 (by decide) ?_
        refine lv_iadd hx hb d_L_law_158 ?_
        refine x_sc hc hR hX heq d_L_law_159 (fun v97 heq => ?_)
        refine x_ck heq (fun tt fs ha ht heq => ?_)
        obtain rfl : tt = 8 := by simpa using ht
        refine x_nI (mc := 0) (ms := 0) (st := []) hLo heq (fun r9 h9 => x_runV hc (c_M_feed hc.g rm_M_feed rk_M_feed _ _ _ _ _ h9) md_M_feed hR ha rfl wd_801 wd_802 wd_803 hl.1 ml_M_feed rfl (Nat.le_of_ble_eq_true rfl) d_L_law_160 ⟨by show 0 + 1 ≤ _; omega, by show 8 + (4 + 11) + (0) ≤ _; omega⟩ ⟨by show cN + 1 + 0 ≤ _; omega, by show sN + 6 + 0 ≤ _; omega⟩) (fun v98 h65 H locs hR hLo heq => ?_)
        refine lv_istore (lv' := [(6, .int v98), (5, .int v95), (0, .ref b), (1, .ref x1), (2, .ref x2), (3, .ref x3), (4, .int x4)]) hx hb d_L_law_163 hl (by decide) rfl (fun ls hl => ?_)
        refine lv_aload_n hx hb d_L_law_165 rfl (lv_at hl 4 rfl) ?_
        refine x_ck heq (fun tt fs ha ht heq => ?_)
        obtain rfl : tt = 8 := by simpa using ht
        refine x_nI (mc := 0) (ms := 0) (st := []) hLo heq (fun r9 h9 => x_runV hc (c_M_thrown hc.g rm_M_thrown rk_M_thrown _ _ _ h9) md_M_thrown hR ha rfl wd_797 wd_798 wd_799 hl.1 ml_M_thrown rfl (Nat.le_of_ble_eq_true rfl) d_L_law_166 ⟨by show 0 + 1 ≤ _; omega, by show 8 + (1 + 11) + (0) ≤ _; omega⟩ ⟨by show cN + 1 + 0 ≤ _; omega, by show sN + 6 + 0 ≤ _; omega⟩) (fun v99 h66 H locs hR hLo heq => ?_)
        refine lv_iload hx hb d_L_law_169 (lv_at hl 1 rfl) ?_
        refine lv_icmp_eq (tgt := 176) hx hb d_L_law_171 rfl (fun hq => ?_) (fun hq => ?_)
        · rw [if_pos hq] at heq
          refine lv_iload hx hb d_L_law_176 (lv_at hl 1 rfl) ?_
          refine lv_if_ne (tgt := 193) hx hb d_L_law_178 rfl (fun hq => ?_) (fun hq => ?_)
          · rw [if_neg hq] at heq
            refine lv_goto (tgt := 874) hx hb d_L_law_193 rfl ?_
            refine lv_iinc (k := 6) (v := (x4 + 3)) (lv' := [(4, .int (x4 + 3)), (6, .int v98), (5, .int v95), (0, .ref b), (1, .ref x1), (2, .ref x2), (3, .ref x3)]) hx hb d_L_law_874 hl rfl rfl (by decide) rfl (fun ls hl => ?_)
            refine lv_goto (tgt := 23) hx hb d_L_law_877 rfl ?_
            exact hr23 x1 x2 x3 (x4 + 3) h66 H locs ls (cN + 1) (sN + 6) hR hLo (lv_sub hl [3, 4, 5, 6, 0] rfl) (by omega) (by omega) heq
          · rw [if_pos hq] at heq
            refine lv_aload_n hx hb d_L_law_181 rfl (lv_at hl 5 rfl) ?_
            refine lv_iconst (v := 0) hx hb d_L_law_182 (by decide) ?_
            refine x_aL hc hR heq d_L_law_183 (fun v100 heq => ?_)
            refine lv_iload hx hb d_L_law_184 (lv_at hl 0 rfl) ?_
            refine lv_i2l (v := (v98 : Int32).toInt64) hx hb d_L_law_186 rfl ?_
            refine x_lcmp hx hb d_L_law_187 ?_
            refine lv_if_eq (tgt := 193) hx hb d_L_law_188 rfl (fun hq => ?_) (fun hq => ?_)
            · rw [if_pos hq] at heq
              refine lv_goto (tgt := 874) hx hb d_L_law_193 rfl ?_
              refine lv_iinc (k := 6) (v := (x4 + 3)) (lv' := [(4, .int (x4 + 3)), (6, .int v98), (5, .int v95), (0, .ref b), (1, .ref x1), (2, .ref x2), (3, .ref x3)]) hx hb d_L_law_874 hl rfl rfl (by decide) rfl (fun ls hl => ?_)
              refine lv_goto (tgt := 23) hx hb d_L_law_877 rfl ?_
              exact hr23 x1 x2 x3 (x4 + 3) h66 H locs ls (cN + 1) (sN + 6) hR hLo (lv_sub hl [3, 4, 5, 6, 0] rfl) (by omega) (by omega) heq
            · rw [if_neg hq] at heq
              refine lv_iconst (v := 0) hx hb d_L_law_191 (by decide) ?_
              cases heq
        · rw [if_neg hq] at heq
          refine lv_iconst (v := 0) hx hb d_L_law_174 (by decide) ?_
          cases heq
      rw [if_neg hk0] at heq
      by_cases hk1 : (v1 &&& 31) = 1
      · rw [if_pos hk1] at heq
        refine lv_tableIn (off := 157) (tgt := 196) hx hb d_L_law_39 (by rw [hk1]; decide) (by rw [hk1]; decide) (by rw [hk1]; rfl) rfl ?_
        refine lv_aload_n hx hb d_L_law_196 rfl (lv_at hl 1 rfl) ?_
        refine x_ck heq (fun tt fs ha ht heq => ?_)
        obtain rfl : tt = 0 := by simpa using ht
        refine x_nV (mc := 0) (ms := 0) (st := []) hLo heq (fun r9 h9 => x_runV hc (c_T_portion hc.g rm_T_portion rk_T_portion _ _ _ h9) md_T_portion hR ha rfl wd_104 wd_105 wd_106 hl.1 ml_T_portion rfl (Nat.le_of_ble_eq_true rfl) d_L_law_197 ⟨by show 1 + 1 ≤ _; omega, by show 8 + (1 + 11) + (20) ≤ _; omega⟩ ⟨by show cN + 0 + 0 ≤ _; omega, by show sN + 0 + 0 ≤ _; omega⟩) (fun h67 H locs hR hLo heq => ?_)
        refine lv_aload_n hx hb d_L_law_200 rfl (lv_at hl 2 rfl) ?_
        refine x_ck heq (fun tt fs ha ht heq => ?_)
        obtain rfl : tt = 8 := by simpa using ht
        refine x_nV (mc := 0) (ms := 0) (st := []) hLo heq (fun r9 h9 => x_runV hc (c_M_portion hc.g rm_M_portion rk_M_portion _ _ _ h9) md_M_portion hR ha rfl wd_805 wd_806 wd_807 hl.1 ml_M_portion rfl (Nat.le_of_ble_eq_true rfl) d_L_law_201 ⟨by show 0 + 1 ≤ _; omega, by show 8 + (1 + 11) + (0) ≤ _; omega⟩ ⟨by show cN + 0 + 0 ≤ _; omega, by show sN + 0 + 0 ≤ _; omega⟩) (fun h68 H locs hR hLo heq => ?_)
        refine lv_goto (tgt := 874) hx hb d_L_law_204 rfl ?_
        refine lv_iinc (k := 4) (v := (x4 + 3)) (lv' := [(4, .int (x4 + 3)), (0, .ref b), (1, .ref x1), (2, .ref x2), (3, .ref x3)]) hx hb d_L_law_874 hl rfl rfl (by decide) rfl (fun ls hl => ?_)
        refine lv_goto (tgt := 23) hx hb d_L_law_877 rfl ?_
        exact hr23 x1 x2 x3 (x4 + 3) h68 H locs ls (cN + 0) (sN + 0) hR hLo (lv_sub hl [1, 2, 3, 4, 0] rfl) (by omega) (by omega) heq
      rw [if_neg hk1] at heq
      by_cases hk2 : (v1 &&& 31) = 2
      · rw [if_pos hk2] at heq
        refine lv_tableIn (off := 168) (tgt := 207) hx hb d_L_law_39 (by rw [hk2]; decide) (by rw [hk2]; decide) (by rw [hk2]; rfl) rfl ?_
        refine lv_aload_n hx hb d_L_law_207 rfl (lv_at hl 1 rfl) ?_
        refine lv_aload_n hx hb d_L_law_208 rfl (lv_at hl 0 rfl) ?_
        refine lv_iload hx hb d_L_law_209 (lv_at hl 4 rfl) ?_
        refine lv_iconst (v := 1) hx hb d_L_law_211 (by decide) ?_
        refine lv_iadd hx hb d_L_law_212 ?_
        refine x_sc hc hR hX heq d_L_law_213 (fun v101 heq => ?_)
        refine x_ck heq (fun tt fs ha ht heq => ?_)
        obtain rfl : tt = 0 := by simpa using ht
        refine x_nI (mc := 0) (ms := 0) (st := []) hLo heq (fun r9 h9 => x_runV hc (c_T_breakAt hc.g rm_T_breakAt rk_T_breakAt _ _ _ _ h9) md_T_breakAt hR ha rfl wd_112 wd_113 wd_114 hl.1 ml_T_breakAt rfl (Nat.le_of_ble_eq_true rfl) d_L_law_214 ⟨by show 1 + 1 ≤ _; omega, by show 8 + (2 + 11) + (21) ≤ _; omega⟩ ⟨by show cN + 0 + 0 ≤ _; omega, by show sN + 0 + 0 ≤ _; omega⟩) (fun v102 h69 H locs hR hLo heq => ?_)
        refine lv_aload_n hx hb d_L_law_217 rfl (lv_at hl 2 rfl) ?_
        refine lv_aload_n hx hb d_L_law_218 rfl (lv_at hl 0 rfl) ?_
        refine lv_iload hx hb d_L_law_219 (lv_at hl 4 rfl) ?_
        refine lv_iconst (v := 1) hx hb d_L_law_221 (by decide) ?_
        refine lv_iadd hx hb d_L_law_222 ?_
        refine x_sc hc hR hX heq d_L_law_223 (fun v103 heq => ?_)
        refine x_ck heq (fun tt fs ha ht heq => ?_)
        obtain rfl : tt = 8 := by simpa using ht
        refine x_nI (mc := 0) (ms := 0) (st := [.int v102]) hLo heq (fun r9 h9 => x_runV hc (c_M_breakAt hc.g rm_M_breakAt rk_M_breakAt _ _ _ _ h9) md_M_breakAt hR ha rfl wd_809 wd_810 wd_811 hl.1 ml_M_breakAt rfl (Nat.le_of_ble_eq_true rfl) d_L_law_224 ⟨by show 0 + 1 ≤ _; omega, by show 8 + (3 + 11) + (0) ≤ _; omega⟩ ⟨by show cN + 0 + 0 ≤ _; omega, by show sN + 0 + 0 ≤ _; omega⟩) (fun v104 h70 H locs hR hLo heq => ?_)
        refine lv_icmp_eq (tgt := 874) hx hb d_L_law_227 rfl (fun hq => ?_) (fun hq => ?_)
        · rw [if_pos hq] at heq
          refine lv_iinc (k := 4) (v := (x4 + 3)) (lv' := [(4, .int (x4 + 3)), (0, .ref b), (1, .ref x1), (2, .ref x2), (3, .ref x3)]) hx hb d_L_law_874 hl rfl rfl (by decide) rfl (fun ls hl => ?_)
          refine lv_goto (tgt := 23) hx hb d_L_law_877 rfl ?_
          exact hr23 x1 x2 x3 (x4 + 3) h70 H locs ls (cN + 0) (sN + 0) hR hLo (lv_sub hl [1, 2, 3, 4, 0] rfl) (by omega) (by omega) heq
        · rw [if_neg hq] at heq
          refine lv_iconst (v := 0) hx hb d_L_law_230 (by decide) ?_
          cases heq
      rw [if_neg hk2] at heq
      by_cases hk3 : (v1 &&& 31) = 3
      · rw [if_pos hk3] at heq
        refine lv_tableIn (off := 193) (tgt := 232) hx hb d_L_law_39 (by rw [hk3]; decide) (by rw [hk3]; decide) (by rw [hk3]; rfl) rfl ?_
        refine lv_aload_n hx hb d_L_law_232 rfl (lv_at hl 1 rfl) ?_
        refine lv_aload_n hx hb d_L_law_233 rfl (lv_at hl 0 rfl) ?_
        refine lv_iload hx hb d_L_law_234 (lv_at hl 4 rfl) ?_
        refine lv_iconst (v := 1) hx hb d_L_law_236 (by decide) ?_
        refine lv_iadd hx hb d_L_law_237 ?_
        refine x_sc hc hR hX heq d_L_law_238 (fun v105 heq => ?_)
        refine lv_aload_n hx hb d_L_law_239 rfl (lv_at hl 0 rfl) ?_
        refine lv_iload hx hb d_L_law_240 (lv_at hl 4 rfl) ?_
        refine lv_iconst (v := 2) hx hb d_L_law_242 (by decide) ?_
        refine lv_iadd hx hb d_L_law_243 ?_
        refine x_sc hc hR hX heq d_L_law_244 (fun v106 heq => ?_)
        refine lv_aload_n hx hb d_L_law_245 rfl (lv_at hl 3 rfl) ?_
        refine x_nI (mc := 2) (ms := 56) (st := []) hLo heq (fun r9 h9 => x_runS hc (c_L_push hc.g rm_L_push rk_L_push _ _ _ _ _ _ h9) md_L_push hR wd_298 wd_299 hl.1 ml_L_push rfl (Nat.le_of_ble_eq_true rfl) d_L_law_246 ⟨by show 7 + 1 ≤ _; omega, by show 8 + (5 + 11) + (119) ≤ _; omega⟩ ⟨by show cN + 0 + 2 ≤ _; omega, by show sN + 0 + 56 ≤ _; omega⟩) (fun v107 h71 H locs hR hLo heq => ?_)
        refine lv_istore (lv' := [(5, .int v107), (0, .ref b), (1, .ref x1), (2, .ref x2), (3, .ref x3), (4, .int x4)]) hx hb d_L_law_249 hl (by decide) rfl (fun ls hl => ?_)
        refine lv_aload_n hx hb d_L_law_251 rfl (lv_at hl 3 rfl) ?_
        refine lv_aload_n hx hb d_L_law_252 rfl (lv_at hl 1 rfl) ?_
        refine lv_iload hx hb d_L_law_253 (lv_at hl 5 rfl) ?_
        refine lv_iconst (v := 1) hx hb d_L_law_255 (by decide) ?_
        refine lv_iadd hx hb d_L_law_256 ?_
        refine x_sc hc hR hX heq d_L_law_257 (fun v108 heq => ?_)
        refine lv_aload_n hx hb d_L_law_258 rfl (lv_at hl 1 rfl) ?_
        refine lv_iload hx hb d_L_law_259 (lv_at hl 5 rfl) ?_
        refine lv_iconst (v := 2) hx hb d_L_law_261 (by decide) ?_
        refine lv_iadd hx hb d_L_law_262 ?_
        refine x_sc hc hR hX heq d_L_law_263 (fun v109 heq => ?_)
        refine x_ck heq (fun tt fs ha ht heq => ?_)
        obtain rfl : tt = 8 := by simpa using ht
        refine x_nI (mc := 0) (ms := 0) (st := []) hLo heq (fun r9 h9 => x_runV hc (c_M_push hc.g rm_M_push rk_M_push _ _ _ _ _ h9) md_M_push hR ha rfl wd_813 wd_814 wd_815 hl.1 ml_M_push rfl (Nat.le_of_ble_eq_true rfl) d_L_law_264 ⟨by show 0 + 1 ≤ _; omega, by show 8 + (7 + 11) + (0) ≤ _; omega⟩ ⟨by show cN + 2 + 0 ≤ _; omega, by show sN + 56 + 0 ≤ _; omega⟩) (fun v110 h72 H locs hR hLo heq => ?_)
        refine lv_istore (lv' := [(6, .int v110), (5, .int v107), (0, .ref b), (1, .ref x1), (2, .ref x2), (3, .ref x3), (4, .int x4)]) hx hb d_L_law_267 hl (by decide) rfl (fun ls hl => ?_)
        refine lv_aload_n hx hb d_L_law_269 rfl (lv_at hl 4 rfl) ?_
        refine x_ck heq (fun tt fs ha ht heq => ?_)
        obtain rfl : tt = 8 := by simpa using ht
        refine x_nI (mc := 0) (ms := 0) (st := []) hLo heq (fun r9 h9 => x_runV hc (c_M_thrown hc.g rm_M_thrown rk_M_thrown _ _ _ h9) md_M_thrown hR ha rfl wd_797 wd_798 wd_799 hl.1 ml_M_thrown rfl (Nat.le_of_ble_eq_true rfl) d_L_law_270 ⟨by show 0 + 1 ≤ _; omega, by show 8 + (1 + 11) + (0) ≤ _; omega⟩ ⟨by show cN + 2 + 0 ≤ _; omega, by show sN + 56 + 0 ≤ _; omega⟩) (fun v111 h73 H locs hR hLo heq => ?_)
        refine lv_iload hx hb d_L_law_273 (lv_at hl 1 rfl) ?_
        refine lv_icmp_eq (tgt := 280) hx hb d_L_law_275 rfl (fun hq => ?_) (fun hq => ?_)
        · rw [if_pos hq] at heq
          refine lv_iload hx hb d_L_law_280 (lv_at hl 1 rfl) ?_
          refine lv_if_ne (tgt := 297) hx hb d_L_law_282 rfl (fun hq => ?_) (fun hq => ?_)
          · rw [if_neg hq] at heq
            refine lv_goto (tgt := 874) hx hb d_L_law_297 rfl ?_
            refine lv_iinc (k := 6) (v := (x4 + 3)) (lv' := [(4, .int (x4 + 3)), (6, .int v110), (5, .int v107), (0, .ref b), (1, .ref x1), (2, .ref x2), (3, .ref x3)]) hx hb d_L_law_874 hl rfl rfl (by decide) rfl (fun ls hl => ?_)
            refine lv_goto (tgt := 23) hx hb d_L_law_877 rfl ?_
            exact hr23 x1 x2 x3 (x4 + 3) h73 H locs ls (cN + 2) (sN + 56) hR hLo (lv_sub hl [3, 4, 5, 6, 0] rfl) (by omega) (by omega) heq
          · rw [if_pos hq] at heq
            refine lv_aload_n hx hb d_L_law_285 rfl (lv_at hl 5 rfl) ?_
            refine lv_iconst (v := 0) hx hb d_L_law_286 (by decide) ?_
            refine x_aL hc hR heq d_L_law_287 (fun v112 heq => ?_)
            refine lv_iload hx hb d_L_law_288 (lv_at hl 0 rfl) ?_
            refine lv_i2l (v := (v110 : Int32).toInt64) hx hb d_L_law_290 rfl ?_
            refine x_lcmp hx hb d_L_law_291 ?_
            refine lv_if_eq (tgt := 297) hx hb d_L_law_292 rfl (fun hq => ?_) (fun hq => ?_)
            · rw [if_pos hq] at heq
              refine lv_goto (tgt := 874) hx hb d_L_law_297 rfl ?_
              refine lv_iinc (k := 6) (v := (x4 + 3)) (lv' := [(4, .int (x4 + 3)), (6, .int v110), (5, .int v107), (0, .ref b), (1, .ref x1), (2, .ref x2), (3, .ref x3)]) hx hb d_L_law_874 hl rfl rfl (by decide) rfl (fun ls hl => ?_)
              refine lv_goto (tgt := 23) hx hb d_L_law_877 rfl ?_
              exact hr23 x1 x2 x3 (x4 + 3) h73 H locs ls (cN + 2) (sN + 56) hR hLo (lv_sub hl [3, 4, 5, 6, 0] rfl) (by omega) (by omega) heq
            · rw [if_neg hq] at heq
              refine lv_iconst (v := 0) hx hb d_L_law_295 (by decide) ?_
              cases heq
        · rw [if_neg hq] at heq
          refine lv_iconst (v := 0) hx hb d_L_law_278 (by decide) ?_
          cases heq
      rw [if_neg hk3] at heq
      by_cases hk4 : (v1 &&& 31) = 4
      · rw [if_pos hk4] at heq
        refine lv_tableIn (off := 261) (tgt := 300) hx hb d_L_law_39 (by rw [hk4]; decide) (by rw [hk4]; decide) (by rw [hk4]; rfl) rfl ?_
        refine lv_aload_n hx hb d_L_law_300 rfl (lv_at hl 1 rfl) ?_
        refine lv_aload_n hx hb d_L_law_301 rfl (lv_at hl 3 rfl) ?_
        refine x_nI (mc := 2) (ms := 12) (st := []) hLo heq (fun r9 h9 => x_runS hc (c_L_read hc.g rm_L_read rk_L_read _ _ _ _ h9) md_L_read hR wd_420 wd_421 hl.1 ml_L_read rfl (Nat.le_of_ble_eq_true rfl) d_L_law_302 ⟨by show 83 + 1 ≤ _; omega, by show 8 + (3 + 11) + (1672) ≤ _; omega⟩ ⟨by show cN + 0 + 2 ≤ _; omega, by show sN + 0 + 12 ≤ _; omega⟩) (fun v113 h74 H locs hR hLo heq => ?_)
        refine lv_istore (lv' := [(5, .int v113), (0, .ref b), (1, .ref x1), (2, .ref x2), (3, .ref x3), (4, .int x4)]) hx hb d_L_law_305 hl (by decide) rfl (fun ls hl => ?_)
        refine lv_aload_n hx hb d_L_law_307 rfl (lv_at hl 3 rfl) ?_
        refine x_ck heq (fun tt fs ha ht heq => ?_)
        obtain rfl : tt = 8 := by simpa using ht
        refine x_nI (mc := 0) (ms := 0) (st := []) hLo heq (fun r9 h9 => x_runV hc (c_M_read hc.g rm_M_read rk_M_read _ _ _ h9) md_M_read hR ha rfl wd_817 wd_818 wd_819 hl.1 ml_M_read rfl (Nat.le_of_ble_eq_true rfl) d_L_law_308 ⟨by show 5 + 1 ≤ _; omega, by show 8 + (1 + 11) + (116) ≤ _; omega⟩ ⟨by show cN + 2 + 0 ≤ _; omega, by show sN + 12 + 0 ≤ _; omega⟩) (fun v114 h75 H locs hR hLo heq => ?_)
        refine lv_istore (lv' := [(6, .int v114), (5, .int v113), (0, .ref b), (1, .ref x1), (2, .ref x2), (3, .ref x3), (4, .int x4)]) hx hb d_L_law_311 hl (by decide) rfl (fun ls hl => ?_)
        refine lv_aload_n hx hb d_L_law_313 rfl (lv_at hl 4 rfl) ?_
        refine x_ck heq (fun tt fs ha ht heq => ?_)
        obtain rfl : tt = 8 := by simpa using ht
        refine x_nI (mc := 0) (ms := 0) (st := []) hLo heq (fun r9 h9 => x_runV hc (c_M_thrown hc.g rm_M_thrown rk_M_thrown _ _ _ h9) md_M_thrown hR ha rfl wd_797 wd_798 wd_799 hl.1 ml_M_thrown rfl (Nat.le_of_ble_eq_true rfl) d_L_law_314 ⟨by show 0 + 1 ≤ _; omega, by show 8 + (1 + 11) + (0) ≤ _; omega⟩ ⟨by show cN + 2 + 0 ≤ _; omega, by show sN + 12 + 0 ≤ _; omega⟩) (fun v115 h76 H locs hR hLo heq => ?_)
        refine lv_iload hx hb d_L_law_317 (lv_at hl 1 rfl) ?_
        refine lv_icmp_eq (tgt := 324) hx hb d_L_law_319 rfl (fun hq => ?_) (fun hq => ?_)
        · rw [if_pos hq] at heq
          refine lv_iload hx hb d_L_law_324 (lv_at hl 1 rfl) ?_
          refine lv_if_ne (tgt := 341) hx hb d_L_law_326 rfl (fun hq => ?_) (fun hq => ?_)
          · rw [if_neg hq] at heq
            refine lv_goto (tgt := 874) hx hb d_L_law_341 rfl ?_
            refine lv_iinc (k := 6) (v := (x4 + 3)) (lv' := [(4, .int (x4 + 3)), (6, .int v114), (5, .int v113), (0, .ref b), (1, .ref x1), (2, .ref x2), (3, .ref x3)]) hx hb d_L_law_874 hl rfl rfl (by decide) rfl (fun ls hl => ?_)
            refine lv_goto (tgt := 23) hx hb d_L_law_877 rfl ?_
            exact hr23 x1 x2 x3 (x4 + 3) h76 H locs ls (cN + 2) (sN + 12) hR hLo (lv_sub hl [3, 4, 5, 6, 0] rfl) (by omega) (by omega) heq
          · rw [if_pos hq] at heq
            refine lv_aload_n hx hb d_L_law_329 rfl (lv_at hl 5 rfl) ?_
            refine lv_iconst (v := 0) hx hb d_L_law_330 (by decide) ?_
            refine x_aL hc hR heq d_L_law_331 (fun v116 heq => ?_)
            refine lv_iload hx hb d_L_law_332 (lv_at hl 0 rfl) ?_
            refine lv_i2l (v := (v114 : Int32).toInt64) hx hb d_L_law_334 rfl ?_
            refine x_lcmp hx hb d_L_law_335 ?_
            refine lv_if_eq (tgt := 341) hx hb d_L_law_336 rfl (fun hq => ?_) (fun hq => ?_)
            · rw [if_pos hq] at heq
              refine lv_goto (tgt := 874) hx hb d_L_law_341 rfl ?_
              refine lv_iinc (k := 6) (v := (x4 + 3)) (lv' := [(4, .int (x4 + 3)), (6, .int v114), (5, .int v113), (0, .ref b), (1, .ref x1), (2, .ref x2), (3, .ref x3)]) hx hb d_L_law_874 hl rfl rfl (by decide) rfl (fun ls hl => ?_)
              refine lv_goto (tgt := 23) hx hb d_L_law_877 rfl ?_
              exact hr23 x1 x2 x3 (x4 + 3) h76 H locs ls (cN + 2) (sN + 12) hR hLo (lv_sub hl [3, 4, 5, 6, 0] rfl) (by omega) (by omega) heq
            · rw [if_neg hq] at heq
              refine lv_iconst (v := 0) hx hb d_L_law_339 (by decide) ?_
              cases heq
        · rw [if_neg hq] at heq
          refine lv_iconst (v := 0) hx hb d_L_law_322 (by decide) ?_
          cases heq
      rw [if_neg hk4] at heq
      by_cases hk5 : (v1 &&& 31) = 5
      · rw [if_pos hk5] at heq
        refine lv_tableIn (off := 305) (tgt := 344) hx hb d_L_law_39 (by rw [hk5]; decide) (by rw [hk5]; decide) (by rw [hk5]; rfl) rfl ?_
        refine lv_aload_n hx hb d_L_law_344 rfl (lv_at hl 1 rfl) ?_
        refine lv_aload_n hx hb d_L_law_345 rfl (lv_at hl 0 rfl) ?_
        refine lv_iload hx hb d_L_law_346 (lv_at hl 4 rfl) ?_
        refine lv_iconst (v := 1) hx hb d_L_law_348 (by decide) ?_
        refine lv_iadd hx hb d_L_law_349 ?_
        refine x_sc hc hR hX heq d_L_law_350 (fun v117 heq => ?_)
        refine lv_aload_n hx hb d_L_law_351 rfl (lv_at hl 3 rfl) ?_
        refine x_nI (mc := 2) (ms := 12) (st := []) hLo heq (fun r9 h9 => x_runS hc (c_L_some hc.g rm_L_some rk_L_some _ _ _ _ _ h9) md_L_some hR wd_498 wd_499 hl.1 ml_L_some rfl (Nat.le_of_ble_eq_true rfl) d_L_law_352 ⟨by show 83 + 1 ≤ _; omega, by show 8 + (4 + 11) + (1673) ≤ _; omega⟩ ⟨by show cN + 0 + 2 ≤ _; omega, by show sN + 0 + 12 ≤ _; omega⟩) (fun v118 h77 H locs hR hLo heq => ?_)
        refine lv_istore (lv' := [(5, .int v118), (0, .ref b), (1, .ref x1), (2, .ref x2), (3, .ref x3), (4, .int x4)]) hx hb d_L_law_355 hl (by decide) rfl (fun ls hl => ?_)
        refine lv_aload_n hx hb d_L_law_357 rfl (lv_at hl 3 rfl) ?_
        refine lv_aload_n hx hb d_L_law_358 rfl (lv_at hl 1 rfl) ?_
        refine lv_iload hx hb d_L_law_359 (lv_at hl 5 rfl) ?_
        refine lv_iconst (v := 1) hx hb d_L_law_361 (by decide) ?_
        refine lv_iadd hx hb d_L_law_362 ?_
        refine x_sc hc hR hX heq d_L_law_363 (fun v119 heq => ?_)
        refine x_ck heq (fun tt fs ha ht heq => ?_)
        obtain rfl : tt = 8 := by simpa using ht
        refine x_nI (mc := 0) (ms := 0) (st := []) hLo heq (fun r9 h9 => x_runV hc (c_M_some hc.g rm_M_some rk_M_some _ _ _ _ h9) md_M_some hR ha rfl wd_869 wd_870 wd_871 hl.1 ml_M_some rfl (Nat.le_of_ble_eq_true rfl) d_L_law_364 ⟨by show 5 + 1 ≤ _; omega, by show 8 + (2 + 11) + (116) ≤ _; omega⟩ ⟨by show cN + 2 + 0 ≤ _; omega, by show sN + 12 + 0 ≤ _; omega⟩) (fun v120 h78 H locs hR hLo heq => ?_)
        refine lv_istore (lv' := [(6, .int v120), (5, .int v118), (0, .ref b), (1, .ref x1), (2, .ref x2), (3, .ref x3), (4, .int x4)]) hx hb d_L_law_367 hl (by decide) rfl (fun ls hl => ?_)
        refine lv_aload_n hx hb d_L_law_369 rfl (lv_at hl 4 rfl) ?_
        refine x_ck heq (fun tt fs ha ht heq => ?_)
        obtain rfl : tt = 8 := by simpa using ht
        refine x_nI (mc := 0) (ms := 0) (st := []) hLo heq (fun r9 h9 => x_runV hc (c_M_thrown hc.g rm_M_thrown rk_M_thrown _ _ _ h9) md_M_thrown hR ha rfl wd_797 wd_798 wd_799 hl.1 ml_M_thrown rfl (Nat.le_of_ble_eq_true rfl) d_L_law_370 ⟨by show 0 + 1 ≤ _; omega, by show 8 + (1 + 11) + (0) ≤ _; omega⟩ ⟨by show cN + 2 + 0 ≤ _; omega, by show sN + 12 + 0 ≤ _; omega⟩) (fun v121 h79 H locs hR hLo heq => ?_)
        refine lv_iload hx hb d_L_law_373 (lv_at hl 1 rfl) ?_
        refine lv_icmp_eq (tgt := 380) hx hb d_L_law_375 rfl (fun hq => ?_) (fun hq => ?_)
        · rw [if_pos hq] at heq
          refine lv_iload hx hb d_L_law_380 (lv_at hl 1 rfl) ?_
          refine lv_if_ne (tgt := 397) hx hb d_L_law_382 rfl (fun hq => ?_) (fun hq => ?_)
          · rw [if_neg hq] at heq
            refine lv_goto (tgt := 874) hx hb d_L_law_397 rfl ?_
            refine lv_iinc (k := 6) (v := (x4 + 3)) (lv' := [(4, .int (x4 + 3)), (6, .int v120), (5, .int v118), (0, .ref b), (1, .ref x1), (2, .ref x2), (3, .ref x3)]) hx hb d_L_law_874 hl rfl rfl (by decide) rfl (fun ls hl => ?_)
            refine lv_goto (tgt := 23) hx hb d_L_law_877 rfl ?_
            exact hr23 x1 x2 x3 (x4 + 3) h79 H locs ls (cN + 2) (sN + 12) hR hLo (lv_sub hl [3, 4, 5, 6, 0] rfl) (by omega) (by omega) heq
          · rw [if_pos hq] at heq
            refine lv_aload_n hx hb d_L_law_385 rfl (lv_at hl 5 rfl) ?_
            refine lv_iconst (v := 0) hx hb d_L_law_386 (by decide) ?_
            refine x_aL hc hR heq d_L_law_387 (fun v122 heq => ?_)
            refine lv_iload hx hb d_L_law_388 (lv_at hl 0 rfl) ?_
            refine lv_i2l (v := (v120 : Int32).toInt64) hx hb d_L_law_390 rfl ?_
            refine x_lcmp hx hb d_L_law_391 ?_
            refine lv_if_eq (tgt := 397) hx hb d_L_law_392 rfl (fun hq => ?_) (fun hq => ?_)
            · rw [if_pos hq] at heq
              refine lv_goto (tgt := 874) hx hb d_L_law_397 rfl ?_
              refine lv_iinc (k := 6) (v := (x4 + 3)) (lv' := [(4, .int (x4 + 3)), (6, .int v120), (5, .int v118), (0, .ref b), (1, .ref x1), (2, .ref x2), (3, .ref x3)]) hx hb d_L_law_874 hl rfl rfl (by decide) rfl (fun ls hl => ?_)
              refine lv_goto (tgt := 23) hx hb d_L_law_877 rfl ?_
              exact hr23 x1 x2 x3 (x4 + 3) h79 H locs ls (cN + 2) (sN + 12) hR hLo (lv_sub hl [3, 4, 5, 6, 0] rfl) (by omega) (by omega) heq
            · rw [if_neg hq] at heq
              refine lv_iconst (v := 0) hx hb d_L_law_395 (by decide) ?_
              cases heq
        · rw [if_neg hq] at heq
          refine lv_iconst (v := 0) hx hb d_L_law_378 (by decide) ?_
          cases heq
      rw [if_neg hk5] at heq
      by_cases hk6 : (v1 &&& 31) = 6
      · rw [if_pos hk6] at heq
        refine lv_tableIn (off := 361) (tgt := 400) hx hb d_L_law_39 (by rw [hk6]; decide) (by rw [hk6]; decide) (by rw [hk6]; rfl) rfl ?_
        refine lv_aload_n hx hb d_L_law_400 rfl (lv_at hl 1 rfl) ?_
        refine lv_aload_n hx hb d_L_law_401 rfl (lv_at hl 0 rfl) ?_
        refine lv_iload hx hb d_L_law_402 (lv_at hl 4 rfl) ?_
        refine lv_iconst (v := 1) hx hb d_L_law_404 (by decide) ?_
        refine lv_iadd hx hb d_L_law_405 ?_
        refine x_sc hc hR hX heq d_L_law_406 (fun v123 heq => ?_)
        refine x_nI (mc := 2) (ms := 12) (st := []) hLo heq (fun r9 h9 => x_runS hc (c_L_full hc.g rm_L_full rk_L_full _ _ _ _ h9) md_L_full hR wd_505 wd_506 hl.1 ml_L_full rfl (Nat.le_of_ble_eq_true rfl) d_L_law_407 ⟨by show 84 + 1 ≤ _; omega, by show 8 + (3 + 11) + (1696) ≤ _; omega⟩ ⟨by show cN + 0 + 2 ≤ _; omega, by show sN + 0 + 12 ≤ _; omega⟩) (fun v124 h80 H locs hR hLo heq => ?_)
        refine lv_istore (lv' := [(5, .int v124), (0, .ref b), (1, .ref x1), (2, .ref x2), (3, .ref x3), (4, .int x4)]) hx hb d_L_law_410 hl (by decide) rfl (fun ls hl => ?_)
        refine lv_aload_n hx hb d_L_law_412 rfl (lv_at hl 3 rfl) ?_
        refine lv_aload_n hx hb d_L_law_413 rfl (lv_at hl 1 rfl) ?_
        refine lv_iload hx hb d_L_law_414 (lv_at hl 5 rfl) ?_
        refine lv_iconst (v := 1) hx hb d_L_law_416 (by decide) ?_
        refine lv_iadd hx hb d_L_law_417 ?_
        refine x_sc hc hR hX heq d_L_law_418 (fun v125 heq => ?_)
        refine x_ck heq (fun tt fs ha ht heq => ?_)
        obtain rfl : tt = 8 := by simpa using ht
        refine x_nV (mc := 0) (ms := 0) (st := []) hLo heq (fun r9 h9 => x_runV hc (c_M_full hc.g rm_M_full rk_M_full _ _ _ _ h9) md_M_full hR ha rfl wd_873 wd_874 wd_875 hl.1 ml_M_full rfl (Nat.le_of_ble_eq_true rfl) d_L_law_419 ⟨by show 6 + 1 ≤ _; omega, by show 8 + (3 + 11) + (138) ≤ _; omega⟩ ⟨by show cN + 2 + 0 ≤ _; omega, by show sN + 12 + 0 ≤ _; omega⟩) (fun h81 H locs hR hLo heq => ?_)
        refine lv_aload_n hx hb d_L_law_422 rfl (lv_at hl 3 rfl) ?_
        refine x_ck heq (fun tt fs ha ht heq => ?_)
        obtain rfl : tt = 8 := by simpa using ht
        refine x_nI (mc := 0) (ms := 0) (st := []) hLo heq (fun r9 h9 => x_runV hc (c_M_thrown hc.g rm_M_thrown rk_M_thrown _ _ _ h9) md_M_thrown hR ha rfl wd_797 wd_798 wd_799 hl.1 ml_M_thrown rfl (Nat.le_of_ble_eq_true rfl) d_L_law_423 ⟨by show 0 + 1 ≤ _; omega, by show 8 + (1 + 11) + (0) ≤ _; omega⟩ ⟨by show cN + 2 + 0 ≤ _; omega, by show sN + 12 + 0 ≤ _; omega⟩) (fun v126 h82 H locs hR hLo heq => ?_)
        refine lv_iload hx hb d_L_law_426 (lv_at hl 0 rfl) ?_
        refine lv_icmp_eq (tgt := 433) hx hb d_L_law_428 rfl (fun hq => ?_) (fun hq => ?_)
        · rw [if_pos hq] at heq
          refine lv_goto (tgt := 874) hx hb d_L_law_433 rfl ?_
          refine lv_iinc (k := 5) (v := (x4 + 3)) (lv' := [(4, .int (x4 + 3)), (5, .int v124), (0, .ref b), (1, .ref x1), (2, .ref x2), (3, .ref x3)]) hx hb d_L_law_874 hl rfl rfl (by decide) rfl (fun ls hl => ?_)
          refine lv_goto (tgt := 23) hx hb d_L_law_877 rfl ?_
          exact hr23 x1 x2 x3 (x4 + 3) h82 H locs ls (cN + 2) (sN + 12) hR hLo (lv_sub hl [2, 3, 4, 5, 0] rfl) (by omega) (by omega) heq
        · rw [if_neg hq] at heq
          refine lv_iconst (v := 0) hx hb d_L_law_431 (by decide) ?_
          cases heq
      rw [if_neg hk6] at heq
      by_cases hk7 : (v1 &&& 31) = 7
      · rw [if_pos hk7] at heq
        refine lv_tableIn (off := 397) (tgt := 436) hx hb d_L_law_39 (by rw [hk7]; decide) (by rw [hk7]; decide) (by rw [hk7]; rfl) rfl ?_
        refine lv_aload_n hx hb d_L_law_436 rfl (lv_at hl 1 rfl) ?_
        refine lv_aload_n hx hb d_L_law_437 rfl (lv_at hl 0 rfl) ?_
        refine lv_iload hx hb d_L_law_438 (lv_at hl 4 rfl) ?_
        refine lv_iconst (v := 1) hx hb d_L_law_440 (by decide) ?_
        refine lv_iadd hx hb d_L_law_441 ?_
        refine x_sc hc hR hX heq d_L_law_442 (fun v127 heq => ?_)
        refine lv_aload_n hx hb d_L_law_443 rfl (lv_at hl 3 rfl) ?_
        refine x_nI (mc := 2) (ms := 12) (st := []) hLo heq (fun r9 h9 => x_runS hc (c_L_skip hc.g rm_L_skip rk_L_skip _ _ _ _ _ h9) md_L_skip hR wd_532 wd_533 hl.1 ml_L_skip rfl (Nat.le_of_ble_eq_true rfl) d_L_law_444 ⟨by show 83 + 1 ≤ _; omega, by show 8 + (4 + 11) + (1675) ≤ _; omega⟩ ⟨by show cN + 0 + 2 ≤ _; omega, by show sN + 0 + 12 ≤ _; omega⟩) (fun v128 h83 H locs hR hLo heq => ?_)
        refine lv_istore (lv' := [(5, .int v128), (0, .ref b), (1, .ref x1), (2, .ref x2), (3, .ref x3), (4, .int x4)]) hx hb d_L_law_447 hl (by decide) rfl (fun ls hl => ?_)
        refine lv_aload_n hx hb d_L_law_449 rfl (lv_at hl 3 rfl) ?_
        refine lv_aload_n hx hb d_L_law_450 rfl (lv_at hl 1 rfl) ?_
        refine lv_iload hx hb d_L_law_451 (lv_at hl 5 rfl) ?_
        refine lv_iconst (v := 1) hx hb d_L_law_453 (by decide) ?_
        refine lv_iadd hx hb d_L_law_454 ?_
        refine x_sc hc hR hX heq d_L_law_455 (fun v129 heq => ?_)
        refine x_ck heq (fun tt fs ha ht heq => ?_)
        obtain rfl : tt = 8 := by simpa using ht
        refine x_nI (mc := 0) (ms := 0) (st := []) hLo heq (fun r9 h9 => x_runV hc (c_M_skip hc.g rm_M_skip rk_M_skip _ _ _ _ h9) md_M_skip hR ha rfl wd_881 wd_882 wd_883 hl.1 ml_M_skip rfl (Nat.le_of_ble_eq_true rfl) d_L_law_456 ⟨by show 5 + 1 ≤ _; omega, by show 8 + (4 + 11) + (116) ≤ _; omega⟩ ⟨by show cN + 2 + 0 ≤ _; omega, by show sN + 12 + 0 ≤ _; omega⟩) (fun v130 h84 H locs hR hLo heq => ?_)
        refine lv_istore (lv' := [(6, .int v130), (5, .int v128), (0, .ref b), (1, .ref x1), (2, .ref x2), (3, .ref x3), (4, .int x4)]) hx hb d_L_law_459 hl (by decide) rfl (fun ls hl => ?_)
        refine lv_aload_n hx hb d_L_law_461 rfl (lv_at hl 4 rfl) ?_
        refine x_ck heq (fun tt fs ha ht heq => ?_)
        obtain rfl : tt = 8 := by simpa using ht
        refine x_nI (mc := 0) (ms := 0) (st := []) hLo heq (fun r9 h9 => x_runV hc (c_M_thrown hc.g rm_M_thrown rk_M_thrown _ _ _ h9) md_M_thrown hR ha rfl wd_797 wd_798 wd_799 hl.1 ml_M_thrown rfl (Nat.le_of_ble_eq_true rfl) d_L_law_462 ⟨by show 0 + 1 ≤ _; omega, by show 8 + (1 + 11) + (0) ≤ _; omega⟩ ⟨by show cN + 2 + 0 ≤ _; omega, by show sN + 12 + 0 ≤ _; omega⟩) (fun v131 h85 H locs hR hLo heq => ?_)
        refine lv_iload hx hb d_L_law_465 (lv_at hl 1 rfl) ?_
        refine lv_icmp_eq (tgt := 472) hx hb d_L_law_467 rfl (fun hq => ?_) (fun hq => ?_)
        · rw [if_pos hq] at heq
          refine lv_iload hx hb d_L_law_472 (lv_at hl 1 rfl) ?_
          refine lv_if_ne (tgt := 489) hx hb d_L_law_474 rfl (fun hq => ?_) (fun hq => ?_)
          · rw [if_neg hq] at heq
            refine lv_goto (tgt := 874) hx hb d_L_law_489 rfl ?_
            refine lv_iinc (k := 6) (v := (x4 + 3)) (lv' := [(4, .int (x4 + 3)), (6, .int v130), (5, .int v128), (0, .ref b), (1, .ref x1), (2, .ref x2), (3, .ref x3)]) hx hb d_L_law_874 hl rfl rfl (by decide) rfl (fun ls hl => ?_)
            refine lv_goto (tgt := 23) hx hb d_L_law_877 rfl ?_
            exact hr23 x1 x2 x3 (x4 + 3) h85 H locs ls (cN + 2) (sN + 12) hR hLo (lv_sub hl [3, 4, 5, 6, 0] rfl) (by omega) (by omega) heq
          · rw [if_pos hq] at heq
            refine lv_aload_n hx hb d_L_law_477 rfl (lv_at hl 5 rfl) ?_
            refine lv_iconst (v := 0) hx hb d_L_law_478 (by decide) ?_
            refine x_aL hc hR heq d_L_law_479 (fun v132 heq => ?_)
            refine lv_iload hx hb d_L_law_480 (lv_at hl 0 rfl) ?_
            refine lv_i2l (v := (v130 : Int32).toInt64) hx hb d_L_law_482 rfl ?_
            refine x_lcmp hx hb d_L_law_483 ?_
            refine lv_if_eq (tgt := 489) hx hb d_L_law_484 rfl (fun hq => ?_) (fun hq => ?_)
            · rw [if_pos hq] at heq
              refine lv_goto (tgt := 874) hx hb d_L_law_489 rfl ?_
              refine lv_iinc (k := 6) (v := (x4 + 3)) (lv' := [(4, .int (x4 + 3)), (6, .int v130), (5, .int v128), (0, .ref b), (1, .ref x1), (2, .ref x2), (3, .ref x3)]) hx hb d_L_law_874 hl rfl rfl (by decide) rfl (fun ls hl => ?_)
              refine lv_goto (tgt := 23) hx hb d_L_law_877 rfl ?_
              exact hr23 x1 x2 x3 (x4 + 3) h85 H locs ls (cN + 2) (sN + 12) hR hLo (lv_sub hl [3, 4, 5, 6, 0] rfl) (by omega) (by omega) heq
            · rw [if_neg hq] at heq
              refine lv_iconst (v := 0) hx hb d_L_law_487 (by decide) ?_
              cases heq
        · rw [if_neg hq] at heq
          refine lv_iconst (v := 0) hx hb d_L_law_470 (by decide) ?_
          cases heq
      rw [if_neg hk7] at heq
      by_cases hk8 : (v1 &&& 31) = 8
      · rw [if_pos hk8] at heq
        refine lv_tableIn (off := 453) (tgt := 492) hx hb d_L_law_39 (by rw [hk8]; decide) (by rw [hk8]; decide) (by rw [hk8]; rfl) rfl ?_
        refine lv_aload_n hx hb d_L_law_492 rfl (lv_at hl 1 rfl) ?_
        refine lv_aload_n hx hb d_L_law_493 rfl (lv_at hl 0 rfl) ?_
        refine lv_iload hx hb d_L_law_494 (lv_at hl 4 rfl) ?_
        refine lv_iconst (v := 1) hx hb d_L_law_496 (by decide) ?_
        refine lv_iadd hx hb d_L_law_497 ?_
        refine x_sc hc hR hX heq d_L_law_498 (fun v133 heq => ?_)
        refine lv_aload_n hx hb d_L_law_499 rfl (lv_at hl 3 rfl) ?_
        refine x_nI (mc := 2) (ms := 12) (st := []) hLo heq (fun r9 h9 => x_runS hc (c_L_number hc.g rm_L_number rk_L_number _ _ _ _ _ h9) md_L_number hR wd_539 wd_540 hl.1 ml_L_number rfl (Nat.le_of_ble_eq_true rfl) d_L_law_500 ⟨by show 84 + 1 ≤ _; omega, by show 8 + (4 + 11) + (1696) ≤ _; omega⟩ ⟨by show cN + 0 + 2 ≤ _; omega, by show sN + 0 + 12 ≤ _; omega⟩) (fun v134 h86 H locs hR hLo heq => ?_)
        refine lv_istore (lv' := [(5, .int v134), (0, .ref b), (1, .ref x1), (2, .ref x2), (3, .ref x3), (4, .int x4)]) hx hb d_L_law_503 hl (by decide) rfl (fun ls hl => ?_)
        refine lv_aload_n hx hb d_L_law_505 rfl (lv_at hl 3 rfl) ?_
        refine lv_aload_n hx hb d_L_law_506 rfl (lv_at hl 1 rfl) ?_
        refine lv_iload hx hb d_L_law_507 (lv_at hl 5 rfl) ?_
        refine lv_iconst (v := 1) hx hb d_L_law_509 (by decide) ?_
        refine lv_iadd hx hb d_L_law_510 ?_
        refine x_sc hc hR hX heq d_L_law_511 (fun v135 heq => ?_)
        refine x_ck heq (fun tt fs ha ht heq => ?_)
        obtain rfl : tt = 8 := by simpa using ht
        refine x_nL (mc := 0) (ms := 0) (st := []) hLo heq (fun r9 h9 => x_runV hc (c_M_number hc.g rm_M_number rk_M_number _ _ _ _ h9) md_M_number hR ha rfl wd_885 wd_886 wd_887 hl.1 ml_M_number rfl (Nat.le_of_ble_eq_true rfl) d_L_law_512 ⟨by show 6 + 1 ≤ _; omega, by show 8 + (6 + 11) + (138) ≤ _; omega⟩ ⟨by show cN + 2 + 0 ≤ _; omega, by show sN + 12 + 0 ≤ _; omega⟩) (fun v136 h87 H locs hR hLo heq => ?_)
        refine lv_lstore (lv' := [(6, .long v136), (5, .int v134), (0, .ref b), (1, .ref x1), (2, .ref x2), (3, .ref x3), (4, .int x4)]) hx hb d_L_law_515 hl (by decide) rfl (fun ls hl => ?_)
        refine lv_aload_n hx hb d_L_law_517 rfl (lv_at hl 4 rfl) ?_
        refine x_ck heq (fun tt fs ha ht heq => ?_)
        obtain rfl : tt = 8 := by simpa using ht
        refine x_nI (mc := 0) (ms := 0) (st := []) hLo heq (fun r9 h9 => x_runV hc (c_M_thrown hc.g rm_M_thrown rk_M_thrown _ _ _ h9) md_M_thrown hR ha rfl wd_797 wd_798 wd_799 hl.1 ml_M_thrown rfl (Nat.le_of_ble_eq_true rfl) d_L_law_518 ⟨by show 0 + 1 ≤ _; omega, by show 8 + (1 + 11) + (0) ≤ _; omega⟩ ⟨by show cN + 2 + 0 ≤ _; omega, by show sN + 12 + 0 ≤ _; omega⟩) (fun v137 h88 H locs hR hLo heq => ?_)
        refine lv_iload hx hb d_L_law_521 (lv_at hl 1 rfl) ?_
        refine lv_icmp_eq (tgt := 528) hx hb d_L_law_523 rfl (fun hq => ?_) (fun hq => ?_)
        · rw [if_pos hq] at heq
          refine lv_iload hx hb d_L_law_528 (lv_at hl 1 rfl) ?_
          refine lv_if_ne (tgt := 544) hx hb d_L_law_530 rfl (fun hq => ?_) (fun hq => ?_)
          · rw [if_neg hq] at heq
            refine lv_goto (tgt := 874) hx hb d_L_law_544 rfl ?_
            refine lv_iinc (k := 6) (v := (x4 + 3)) (lv' := [(4, .int (x4 + 3)), (6, .long v136), (5, .int v134), (0, .ref b), (1, .ref x1), (2, .ref x2), (3, .ref x3)]) hx hb d_L_law_874 hl rfl rfl (by decide) rfl (fun ls hl => ?_)
            refine lv_goto (tgt := 23) hx hb d_L_law_877 rfl ?_
            exact hr23 x1 x2 x3 (x4 + 3) h88 H locs ls (cN + 2) (sN + 12) hR hLo (lv_sub hl [3, 4, 5, 6, 0] rfl) (by omega) (by omega) heq
          · rw [if_pos hq] at heq
            refine lv_aload_n hx hb d_L_law_533 rfl (lv_at hl 5 rfl) ?_
            refine lv_iconst (v := 0) hx hb d_L_law_534 (by decide) ?_
            refine x_aL hc hR heq d_L_law_535 (fun v138 heq => ?_)
            refine lv_lload hx hb d_L_law_536 (lv_at hl 0 rfl) ?_
            refine x_lcmp hx hb d_L_law_538 ?_
            refine lv_if_eq (tgt := 544) hx hb d_L_law_539 rfl (fun hq => ?_) (fun hq => ?_)
            · rw [if_pos hq] at heq
              refine lv_goto (tgt := 874) hx hb d_L_law_544 rfl ?_
              refine lv_iinc (k := 6) (v := (x4 + 3)) (lv' := [(4, .int (x4 + 3)), (6, .long v136), (5, .int v134), (0, .ref b), (1, .ref x1), (2, .ref x2), (3, .ref x3)]) hx hb d_L_law_874 hl rfl rfl (by decide) rfl (fun ls hl => ?_)
              refine lv_goto (tgt := 23) hx hb d_L_law_877 rfl ?_
              exact hr23 x1 x2 x3 (x4 + 3) h88 H locs ls (cN + 2) (sN + 12) hR hLo (lv_sub hl [3, 4, 5, 6, 0] rfl) (by omega) (by omega) heq
            · rw [if_neg hq] at heq
              refine lv_iconst (v := 0) hx hb d_L_law_542 (by decide) ?_
              cases heq
        · rw [if_neg hq] at heq
          refine lv_iconst (v := 0) hx hb d_L_law_526 (by decide) ?_
          cases heq
      rw [if_neg hk8] at heq
      by_cases hk9 : (v1 &&& 31) = 9
      · rw [if_pos hk9] at heq
        refine lv_tableIn (off := 508) (tgt := 547) hx hb d_L_law_39 (by rw [hk9]; decide) (by rw [hk9]; decide) (by rw [hk9]; rfl) rfl ?_
        refine lv_aload_n hx hb d_L_law_547 rfl (lv_at hl 1 rfl) ?_
        refine lv_aload_n hx hb d_L_law_548 rfl (lv_at hl 3 rfl) ?_
        refine x_nI (mc := 4) (ms := 24) (st := []) hLo heq (fun r9 h9 => x_runS hc (c_L_text hc.g rm_L_text rk_L_text _ _ _ _ h9) md_L_text hR wd_550 wd_551 hl.1 ml_L_text rfl (Nat.le_of_ble_eq_true rfl) d_L_law_549 ⟨by show 84 + 1 ≤ _; omega, by show 8 + (3 + 11) + (1696) ≤ _; omega⟩ ⟨by show cN + 0 + 4 ≤ _; omega, by show sN + 0 + 24 ≤ _; omega⟩) (fun v139 h89 H locs hR hLo heq => ?_)
        refine lv_istore (lv' := [(5, .int v139), (0, .ref b), (1, .ref x1), (2, .ref x2), (3, .ref x3), (4, .int x4)]) hx hb d_L_law_552 hl (by decide) rfl (fun ls hl => ?_)
        refine lv_aload_n hx hb d_L_law_554 rfl (lv_at hl 3 rfl) ?_
        refine x_ck heq (fun tt fs ha ht heq => ?_)
        obtain rfl : tt = 8 := by simpa using ht
        refine x_nI (mc := 0) (ms := 0) (st := []) hLo heq (fun r9 h9 => x_runV hc (c_M_text hc.g rm_M_text rk_M_text _ _ _ h9) md_M_text hR ha rfl wd_889 wd_890 wd_891 hl.1 ml_M_text rfl (Nat.le_of_ble_eq_true rfl) d_L_law_555 ⟨by show 6 + 1 ≤ _; omega, by show 8 + (5 + 11) + (138) ≤ _; omega⟩ ⟨by show cN + 4 + 0 ≤ _; omega, by show sN + 24 + 0 ≤ _; omega⟩) (fun v140 h90 H locs hR hLo heq => ?_)
        refine lv_istore (lv' := [(6, .int v140), (5, .int v139), (0, .ref b), (1, .ref x1), (2, .ref x2), (3, .ref x3), (4, .int x4)]) hx hb d_L_law_558 hl (by decide) rfl (fun ls hl => ?_)
        refine lv_aload_n hx hb d_L_law_560 rfl (lv_at hl 4 rfl) ?_
        refine x_ck heq (fun tt fs ha ht heq => ?_)
        obtain rfl : tt = 8 := by simpa using ht
        refine x_nI (mc := 0) (ms := 0) (st := []) hLo heq (fun r9 h9 => x_runV hc (c_M_thrown hc.g rm_M_thrown rk_M_thrown _ _ _ h9) md_M_thrown hR ha rfl wd_797 wd_798 wd_799 hl.1 ml_M_thrown rfl (Nat.le_of_ble_eq_true rfl) d_L_law_561 ⟨by show 0 + 1 ≤ _; omega, by show 8 + (1 + 11) + (0) ≤ _; omega⟩ ⟨by show cN + 4 + 0 ≤ _; omega, by show sN + 24 + 0 ≤ _; omega⟩) (fun v141 h91 H locs hR hLo heq => ?_)
        refine lv_iload hx hb d_L_law_564 (lv_at hl 1 rfl) ?_
        refine lv_icmp_eq (tgt := 571) hx hb d_L_law_566 rfl (fun hq => ?_) (fun hq => ?_)
        · rw [if_pos hq] at heq
          refine lv_iload hx hb d_L_law_571 (lv_at hl 1 rfl) ?_
          refine lv_if_ne (tgt := 588) hx hb d_L_law_573 rfl (fun hq => ?_) (fun hq => ?_)
          · rw [if_neg hq] at heq
            refine lv_goto (tgt := 874) hx hb d_L_law_588 rfl ?_
            refine lv_iinc (k := 6) (v := (x4 + 3)) (lv' := [(4, .int (x4 + 3)), (6, .int v140), (5, .int v139), (0, .ref b), (1, .ref x1), (2, .ref x2), (3, .ref x3)]) hx hb d_L_law_874 hl rfl rfl (by decide) rfl (fun ls hl => ?_)
            refine lv_goto (tgt := 23) hx hb d_L_law_877 rfl ?_
            exact hr23 x1 x2 x3 (x4 + 3) h91 H locs ls (cN + 4) (sN + 24) hR hLo (lv_sub hl [3, 4, 5, 6, 0] rfl) (by omega) (by omega) heq
          · rw [if_pos hq] at heq
            refine lv_aload_n hx hb d_L_law_576 rfl (lv_at hl 5 rfl) ?_
            refine lv_iconst (v := 0) hx hb d_L_law_577 (by decide) ?_
            refine x_aL hc hR heq d_L_law_578 (fun v142 heq => ?_)
            refine lv_iload hx hb d_L_law_579 (lv_at hl 0 rfl) ?_
            refine lv_i2l (v := (v140 : Int32).toInt64) hx hb d_L_law_581 rfl ?_
            refine x_lcmp hx hb d_L_law_582 ?_
            refine lv_if_eq (tgt := 588) hx hb d_L_law_583 rfl (fun hq => ?_) (fun hq => ?_)
            · rw [if_pos hq] at heq
              refine lv_goto (tgt := 874) hx hb d_L_law_588 rfl ?_
              refine lv_iinc (k := 6) (v := (x4 + 3)) (lv' := [(4, .int (x4 + 3)), (6, .int v140), (5, .int v139), (0, .ref b), (1, .ref x1), (2, .ref x2), (3, .ref x3)]) hx hb d_L_law_874 hl rfl rfl (by decide) rfl (fun ls hl => ?_)
              refine lv_goto (tgt := 23) hx hb d_L_law_877 rfl ?_
              exact hr23 x1 x2 x3 (x4 + 3) h91 H locs ls (cN + 4) (sN + 24) hR hLo (lv_sub hl [3, 4, 5, 6, 0] rfl) (by omega) (by omega) heq
            · rw [if_neg hq] at heq
              refine lv_iconst (v := 0) hx hb d_L_law_586 (by decide) ?_
              cases heq
        · rw [if_neg hq] at heq
          refine lv_iconst (v := 0) hx hb d_L_law_569 (by decide) ?_
          cases heq
      rw [if_neg hk9] at heq
      by_cases hk10 : (v1 &&& 31) = 10
      · rw [if_pos hk10] at heq
        refine lv_tableIn (off := 552) (tgt := 591) hx hb d_L_law_39 (by rw [hk10]; decide) (by rw [hk10]; decide) (by rw [hk10]; rfl) rfl ?_
        refine lv_aload_n hx hb d_L_law_591 rfl (lv_at hl 1 rfl) ?_
        refine lv_aload_n hx hb d_L_law_592 rfl (lv_at hl 3 rfl) ?_
        refine x_nI (mc := 2) (ms := 12) (st := []) hLo heq (fun r9 h9 => x_runS hc (c_L_line hc.g rm_L_line rk_L_line _ _ _ _ h9) md_L_line hR wd_574 wd_575 hl.1 ml_L_line rfl (Nat.le_of_ble_eq_true rfl) d_L_law_593 ⟨by show 83 + 1 ≤ _; omega, by show 8 + (3 + 11) + (1674) ≤ _; omega⟩ ⟨by show cN + 0 + 2 ≤ _; omega, by show sN + 0 + 12 ≤ _; omega⟩) (fun v143 h92 H locs hR hLo heq => ?_)
        refine lv_istore (lv' := [(5, .int v143), (0, .ref b), (1, .ref x1), (2, .ref x2), (3, .ref x3), (4, .int x4)]) hx hb d_L_law_596 hl (by decide) rfl (fun ls hl => ?_)
        refine lv_aload_n hx hb d_L_law_598 rfl (lv_at hl 3 rfl) ?_
        refine x_ck heq (fun tt fs ha ht heq => ?_)
        obtain rfl : tt = 8 := by simpa using ht
        refine x_nI (mc := 0) (ms := 0) (st := []) hLo heq (fun r9 h9 => x_runV hc (c_M_line hc.g rm_M_line rk_M_line _ _ _ h9) md_M_line hR ha rfl wd_905 wd_906 wd_907 hl.1 ml_M_line rfl (Nat.le_of_ble_eq_true rfl) d_L_law_599 ⟨by show 5 + 1 ≤ _; omega, by show 8 + (4 + 11) + (116) ≤ _; omega⟩ ⟨by show cN + 2 + 0 ≤ _; omega, by show sN + 12 + 0 ≤ _; omega⟩) (fun v144 h93 H locs hR hLo heq => ?_)
        refine lv_istore (lv' := [(6, .int v144), (5, .int v143), (0, .ref b), (1, .ref x1), (2, .ref x2), (3, .ref x3), (4, .int x4)]) hx hb d_L_law_602 hl (by decide) rfl (fun ls hl => ?_)
        refine lv_aload_n hx hb d_L_law_604 rfl (lv_at hl 4 rfl) ?_
        refine x_ck heq (fun tt fs ha ht heq => ?_)
        obtain rfl : tt = 8 := by simpa using ht
        refine x_nI (mc := 0) (ms := 0) (st := []) hLo heq (fun r9 h9 => x_runV hc (c_M_thrown hc.g rm_M_thrown rk_M_thrown _ _ _ h9) md_M_thrown hR ha rfl wd_797 wd_798 wd_799 hl.1 ml_M_thrown rfl (Nat.le_of_ble_eq_true rfl) d_L_law_605 ⟨by show 0 + 1 ≤ _; omega, by show 8 + (1 + 11) + (0) ≤ _; omega⟩ ⟨by show cN + 2 + 0 ≤ _; omega, by show sN + 12 + 0 ≤ _; omega⟩) (fun v145 h94 H locs hR hLo heq => ?_)
        refine lv_iload hx hb d_L_law_608 (lv_at hl 1 rfl) ?_
        refine lv_icmp_eq (tgt := 615) hx hb d_L_law_610 rfl (fun hq => ?_) (fun hq => ?_)
        · rw [if_pos hq] at heq
          refine lv_iload hx hb d_L_law_615 (lv_at hl 1 rfl) ?_
          refine lv_if_ne (tgt := 632) hx hb d_L_law_617 rfl (fun hq => ?_) (fun hq => ?_)
          · rw [if_neg hq] at heq
            refine lv_goto (tgt := 874) hx hb d_L_law_632 rfl ?_
            refine lv_iinc (k := 6) (v := (x4 + 3)) (lv' := [(4, .int (x4 + 3)), (6, .int v144), (5, .int v143), (0, .ref b), (1, .ref x1), (2, .ref x2), (3, .ref x3)]) hx hb d_L_law_874 hl rfl rfl (by decide) rfl (fun ls hl => ?_)
            refine lv_goto (tgt := 23) hx hb d_L_law_877 rfl ?_
            exact hr23 x1 x2 x3 (x4 + 3) h94 H locs ls (cN + 2) (sN + 12) hR hLo (lv_sub hl [3, 4, 5, 6, 0] rfl) (by omega) (by omega) heq
          · rw [if_pos hq] at heq
            refine lv_aload_n hx hb d_L_law_620 rfl (lv_at hl 5 rfl) ?_
            refine lv_iconst (v := 0) hx hb d_L_law_621 (by decide) ?_
            refine x_aL hc hR heq d_L_law_622 (fun v146 heq => ?_)
            refine lv_iload hx hb d_L_law_623 (lv_at hl 0 rfl) ?_
            refine lv_i2l (v := (v144 : Int32).toInt64) hx hb d_L_law_625 rfl ?_
            refine x_lcmp hx hb d_L_law_626 ?_
            refine lv_if_eq (tgt := 632) hx hb d_L_law_627 rfl (fun hq => ?_) (fun hq => ?_)
            · rw [if_pos hq] at heq
              refine lv_goto (tgt := 874) hx hb d_L_law_632 rfl ?_
              refine lv_iinc (k := 6) (v := (x4 + 3)) (lv' := [(4, .int (x4 + 3)), (6, .int v144), (5, .int v143), (0, .ref b), (1, .ref x1), (2, .ref x2), (3, .ref x3)]) hx hb d_L_law_874 hl rfl rfl (by decide) rfl (fun ls hl => ?_)
              refine lv_goto (tgt := 23) hx hb d_L_law_877 rfl ?_
              exact hr23 x1 x2 x3 (x4 + 3) h94 H locs ls (cN + 2) (sN + 12) hR hLo (lv_sub hl [3, 4, 5, 6, 0] rfl) (by omega) (by omega) heq
            · rw [if_neg hq] at heq
              refine lv_iconst (v := 0) hx hb d_L_law_630 (by decide) ?_
              cases heq
        · rw [if_neg hq] at heq
          refine lv_iconst (v := 0) hx hb d_L_law_613 (by decide) ?_
          cases heq
      rw [if_neg hk10] at heq
      by_cases hk11 : (v1 &&& 31) = 11
      · rw [if_pos hk11] at heq
        refine lv_tableIn (off := 596) (tgt := 635) hx hb d_L_law_39 (by rw [hk11]; decide) (by rw [hk11]; decide) (by rw [hk11]; rfl) rfl ?_
        refine lv_aload_n hx hb d_L_law_635 rfl (lv_at hl 1 rfl) ?_
        refine lv_aload_n hx hb d_L_law_636 rfl (lv_at hl 0 rfl) ?_
        refine lv_iload hx hb d_L_law_637 (lv_at hl 4 rfl) ?_
        refine lv_iconst (v := 1) hx hb d_L_law_639 (by decide) ?_
        refine lv_iadd hx hb d_L_law_640 ?_
        refine x_sc hc hR hX heq d_L_law_641 (fun v147 heq => ?_)
        refine x_nI (mc := 2) (ms := 12) (st := []) hLo heq (fun r9 h9 => x_runS hc (c_L_mark hc.g rm_L_mark rk_L_mark _ _ _ _ h9) md_L_mark hR wd_581 wd_582 hl.1 ml_L_mark rfl (Nat.le_of_ble_eq_true rfl) d_L_law_642 ⟨by show 82 + 1 ≤ _; omega, by show 8 + (3 + 11) + (1650) ≤ _; omega⟩ ⟨by show cN + 0 + 2 ≤ _; omega, by show sN + 0 + 12 ≤ _; omega⟩) (fun v148 h95 H locs hR hLo heq => ?_)
        refine lv_istore (lv' := [(5, .int v148), (0, .ref b), (1, .ref x1), (2, .ref x2), (3, .ref x3), (4, .int x4)]) hx hb d_L_law_645 hl (by decide) rfl (fun ls hl => ?_)
        refine lv_aload_n hx hb d_L_law_647 rfl (lv_at hl 3 rfl) ?_
        refine lv_aload_n hx hb d_L_law_648 rfl (lv_at hl 1 rfl) ?_
        refine lv_iload hx hb d_L_law_649 (lv_at hl 5 rfl) ?_
        refine lv_iconst (v := 1) hx hb d_L_law_651 (by decide) ?_
        refine lv_iadd hx hb d_L_law_652 ?_
        refine x_sc hc hR hX heq d_L_law_653 (fun v149 heq => ?_)
        refine x_ck heq (fun tt fs ha ht heq => ?_)
        obtain rfl : tt = 8 := by simpa using ht
        refine x_nV (mc := 0) (ms := 0) (st := []) hLo heq (fun r9 h9 => x_runV hc (c_M_mark hc.g rm_M_mark rk_M_mark _ _ _ _ h9) md_M_mark hR ha rfl wd_909 wd_910 wd_911 hl.1 ml_M_mark rfl (Nat.le_of_ble_eq_true rfl) d_L_law_654 ⟨by show 1 + 1 ≤ _; omega, by show 8 + (4 + 11) + (23) ≤ _; omega⟩ ⟨by show cN + 2 + 0 ≤ _; omega, by show sN + 12 + 0 ≤ _; omega⟩) (fun h96 H locs hR hLo heq => ?_)
        refine lv_aload_n hx hb d_L_law_657 rfl (lv_at hl 3 rfl) ?_
        refine x_ck heq (fun tt fs ha ht heq => ?_)
        obtain rfl : tt = 8 := by simpa using ht
        refine x_nI (mc := 0) (ms := 0) (st := []) hLo heq (fun r9 h9 => x_runV hc (c_M_thrown hc.g rm_M_thrown rk_M_thrown _ _ _ h9) md_M_thrown hR ha rfl wd_797 wd_798 wd_799 hl.1 ml_M_thrown rfl (Nat.le_of_ble_eq_true rfl) d_L_law_658 ⟨by show 0 + 1 ≤ _; omega, by show 8 + (1 + 11) + (0) ≤ _; omega⟩ ⟨by show cN + 2 + 0 ≤ _; omega, by show sN + 12 + 0 ≤ _; omega⟩) (fun v150 h97 H locs hR hLo heq => ?_)
        refine lv_iload hx hb d_L_law_661 (lv_at hl 0 rfl) ?_
        refine lv_icmp_eq (tgt := 668) hx hb d_L_law_663 rfl (fun hq => ?_) (fun hq => ?_)
        · rw [if_pos hq] at heq
          refine lv_goto (tgt := 874) hx hb d_L_law_668 rfl ?_
          refine lv_iinc (k := 5) (v := (x4 + 3)) (lv' := [(4, .int (x4 + 3)), (5, .int v148), (0, .ref b), (1, .ref x1), (2, .ref x2), (3, .ref x3)]) hx hb d_L_law_874 hl rfl rfl (by decide) rfl (fun ls hl => ?_)
          refine lv_goto (tgt := 23) hx hb d_L_law_877 rfl ?_
          exact hr23 x1 x2 x3 (x4 + 3) h97 H locs ls (cN + 2) (sN + 12) hR hLo (lv_sub hl [2, 3, 4, 5, 0] rfl) (by omega) (by omega) heq
        · rw [if_neg hq] at heq
          refine lv_iconst (v := 0) hx hb d_L_law_666 (by decide) ?_
          cases heq
      rw [if_neg hk11] at heq
      by_cases hk12 : (v1 &&& 31) = 12
      · rw [if_pos hk12] at heq
        refine lv_tableIn (off := 632) (tgt := 671) hx hb d_L_law_39 (by rw [hk12]; decide) (by rw [hk12]; decide) (by rw [hk12]; rfl) rfl ?_
        refine lv_aload_n hx hb d_L_law_671 rfl (lv_at hl 1 rfl) ?_
        refine x_nI (mc := 2) (ms := 12) (st := []) hLo heq (fun r9 h9 => x_runS hc (c_L_reset hc.g rm_L_reset rk_L_reset _ _ _ h9) md_L_reset hR wd_646 wd_647 hl.1 ml_L_reset rfl (Nat.le_of_ble_eq_true rfl) d_L_law_672 ⟨by show 82 + 1 ≤ _; omega, by show 8 + (2 + 11) + (1649) ≤ _; omega⟩ ⟨by show cN + 0 + 2 ≤ _; omega, by show sN + 0 + 12 ≤ _; omega⟩) (fun v151 h98 H locs hR hLo heq => ?_)
        refine lv_istore (lv' := [(5, .int v151), (0, .ref b), (1, .ref x1), (2, .ref x2), (3, .ref x3), (4, .int x4)]) hx hb d_L_law_675 hl (by decide) rfl (fun ls hl => ?_)
        refine lv_aload_n hx hb d_L_law_677 rfl (lv_at hl 3 rfl) ?_
        refine x_ck heq (fun tt fs ha ht heq => ?_)
        obtain rfl : tt = 8 := by simpa using ht
        refine x_nV (mc := 0) (ms := 0) (st := []) hLo heq (fun r9 h9 => x_runV hc (c_M_reset hc.g rm_M_reset rk_M_reset _ _ _ h9) md_M_reset hR ha rfl wd_917 wd_918 wd_919 hl.1 ml_M_reset rfl (Nat.le_of_ble_eq_true rfl) d_L_law_678 ⟨by show 1 + 1 ≤ _; omega, by show 8 + (3 + 11) + (21) ≤ _; omega⟩ ⟨by show cN + 2 + 0 ≤ _; omega, by show sN + 12 + 0 ≤ _; omega⟩) (fun h99 H locs hR hLo heq => ?_)
        refine lv_aload_n hx hb d_L_law_681 rfl (lv_at hl 3 rfl) ?_
        refine x_ck heq (fun tt fs ha ht heq => ?_)
        obtain rfl : tt = 8 := by simpa using ht
        refine x_nI (mc := 0) (ms := 0) (st := []) hLo heq (fun r9 h9 => x_runV hc (c_M_thrown hc.g rm_M_thrown rk_M_thrown _ _ _ h9) md_M_thrown hR ha rfl wd_797 wd_798 wd_799 hl.1 ml_M_thrown rfl (Nat.le_of_ble_eq_true rfl) d_L_law_682 ⟨by show 0 + 1 ≤ _; omega, by show 8 + (1 + 11) + (0) ≤ _; omega⟩ ⟨by show cN + 2 + 0 ≤ _; omega, by show sN + 12 + 0 ≤ _; omega⟩) (fun v152 h100 H locs hR hLo heq => ?_)
        refine lv_iload hx hb d_L_law_685 (lv_at hl 0 rfl) ?_
        refine lv_icmp_eq (tgt := 692) hx hb d_L_law_687 rfl (fun hq => ?_) (fun hq => ?_)
        · rw [if_pos hq] at heq
          refine lv_goto (tgt := 874) hx hb d_L_law_692 rfl ?_
          refine lv_iinc (k := 5) (v := (x4 + 3)) (lv' := [(4, .int (x4 + 3)), (5, .int v151), (0, .ref b), (1, .ref x1), (2, .ref x2), (3, .ref x3)]) hx hb d_L_law_874 hl rfl rfl (by decide) rfl (fun ls hl => ?_)
          refine lv_goto (tgt := 23) hx hb d_L_law_877 rfl ?_
          exact hr23 x1 x2 x3 (x4 + 3) h100 H locs ls (cN + 2) (sN + 12) hR hLo (lv_sub hl [2, 3, 4, 5, 0] rfl) (by omega) (by omega) heq
        · rw [if_neg hq] at heq
          refine lv_iconst (v := 0) hx hb d_L_law_690 (by decide) ?_
          cases heq
      rw [if_neg hk12] at heq
      by_cases hk13 : (v1 &&& 31) = 13
      · rw [if_pos hk13] at heq
        refine lv_tableIn (off := 656) (tgt := 695) hx hb d_L_law_39 (by rw [hk13]; decide) (by rw [hk13]; decide) (by rw [hk13]; rfl) rfl ?_
        refine lv_aload_n hx hb d_L_law_695 rfl (lv_at hl 1 rfl) ?_
        refine lv_aload_n hx hb d_L_law_696 rfl (lv_at hl 0 rfl) ?_
        refine lv_iload hx hb d_L_law_697 (lv_at hl 4 rfl) ?_
        refine lv_iconst (v := 1) hx hb d_L_law_699 (by decide) ?_
        refine lv_iadd hx hb d_L_law_700 ?_
        refine x_sc hc hR hX heq d_L_law_701 (fun v153 heq => ?_)
        refine x_nI (mc := 2) (ms := 12) (st := []) hLo heq (fun r9 h9 => x_runS hc (c_L_unread hc.g rm_L_unread rk_L_unread _ _ _ _ h9) md_L_unread hR wd_695 wd_696 hl.1 ml_L_unread rfl (Nat.le_of_ble_eq_true rfl) d_L_law_702 ⟨by show 8 + 1 ≤ _; omega, by show 8 + (3 + 11) + (123) ≤ _; omega⟩ ⟨by show cN + 0 + 2 ≤ _; omega, by show sN + 0 + 12 ≤ _; omega⟩) (fun v154 h101 H locs hR hLo heq => ?_)
        refine lv_istore (lv' := [(5, .int v154), (0, .ref b), (1, .ref x1), (2, .ref x2), (3, .ref x3), (4, .int x4)]) hx hb d_L_law_705 hl (by decide) rfl (fun ls hl => ?_)
        refine lv_aload_n hx hb d_L_law_707 rfl (lv_at hl 3 rfl) ?_
        refine lv_aload_n hx hb d_L_law_708 rfl (lv_at hl 1 rfl) ?_
        refine lv_iload hx hb d_L_law_709 (lv_at hl 5 rfl) ?_
        refine lv_iconst (v := 1) hx hb d_L_law_711 (by decide) ?_
        refine lv_iadd hx hb d_L_law_712 ?_
        refine x_sc hc hR hX heq d_L_law_713 (fun v155 heq => ?_)
        refine x_ck heq (fun tt fs ha ht heq => ?_)
        obtain rfl : tt = 8 := by simpa using ht
        refine x_nV (mc := 0) (ms := 0) (st := []) hLo heq (fun r9 h9 => x_runV hc (c_M_unread hc.g rm_M_unread rk_M_unread _ _ _ _ h9) md_M_unread hR ha rfl wd_921 wd_922 wd_923 hl.1 ml_M_unread rfl (Nat.le_of_ble_eq_true rfl) d_L_law_714 ⟨by show 0 + 1 ≤ _; omega, by show 8 + (4 + 11) + (0) ≤ _; omega⟩ ⟨by show cN + 2 + 0 ≤ _; omega, by show sN + 12 + 0 ≤ _; omega⟩) (fun h102 H locs hR hLo heq => ?_)
        refine lv_aload_n hx hb d_L_law_717 rfl (lv_at hl 3 rfl) ?_
        refine x_ck heq (fun tt fs ha ht heq => ?_)
        obtain rfl : tt = 8 := by simpa using ht
        refine x_nI (mc := 0) (ms := 0) (st := []) hLo heq (fun r9 h9 => x_runV hc (c_M_thrown hc.g rm_M_thrown rk_M_thrown _ _ _ h9) md_M_thrown hR ha rfl wd_797 wd_798 wd_799 hl.1 ml_M_thrown rfl (Nat.le_of_ble_eq_true rfl) d_L_law_718 ⟨by show 0 + 1 ≤ _; omega, by show 8 + (1 + 11) + (0) ≤ _; omega⟩ ⟨by show cN + 2 + 0 ≤ _; omega, by show sN + 12 + 0 ≤ _; omega⟩) (fun v156 h103 H locs hR hLo heq => ?_)
        refine lv_iload hx hb d_L_law_721 (lv_at hl 0 rfl) ?_
        refine lv_icmp_eq (tgt := 728) hx hb d_L_law_723 rfl (fun hq => ?_) (fun hq => ?_)
        · rw [if_pos hq] at heq
          refine lv_goto (tgt := 874) hx hb d_L_law_728 rfl ?_
          refine lv_iinc (k := 5) (v := (x4 + 3)) (lv' := [(4, .int (x4 + 3)), (5, .int v154), (0, .ref b), (1, .ref x1), (2, .ref x2), (3, .ref x3)]) hx hb d_L_law_874 hl rfl rfl (by decide) rfl (fun ls hl => ?_)
          refine lv_goto (tgt := 23) hx hb d_L_law_877 rfl ?_
          exact hr23 x1 x2 x3 (x4 + 3) h103 H locs ls (cN + 2) (sN + 12) hR hLo (lv_sub hl [2, 3, 4, 5, 0] rfl) (by omega) (by omega) heq
        · rw [if_neg hq] at heq
          refine lv_iconst (v := 0) hx hb d_L_law_726 (by decide) ?_
          cases heq
      rw [if_neg hk13] at heq
      by_cases hk14 : (v1 &&& 31) = 14
      · rw [if_pos hk14] at heq
        refine lv_tableIn (off := 692) (tgt := 731) hx hb d_L_law_39 (by rw [hk14]; decide) (by rw [hk14]; decide) (by rw [hk14]; rfl) rfl ?_
        refine lv_aload_n hx hb d_L_law_731 rfl (lv_at hl 1 rfl) ?_
        refine x_ck heq (fun tt fs ha ht heq => ?_)
        obtain rfl : tt = 0 := by simpa using ht
        refine x_nI (mc := 0) (ms := 0) (st := []) hLo heq (fun r9 h9 => x_runV hc (c_T_available hc.g rm_T_available rk_T_available _ _ _ h9) md_T_available hR ha rfl wd_124 wd_125 wd_126 hl.1 ml_T_available rfl (Nat.le_of_ble_eq_true rfl) d_L_law_732 ⟨by show 81 + 1 ≤ _; omega, by show 8 + (1 + 11) + (1629) ≤ _; omega⟩ ⟨by show cN + 0 + 0 ≤ _; omega, by show sN + 0 + 0 ≤ _; omega⟩) (fun v157 h104 H locs hR hLo heq => ?_)
        refine lv_aload_n hx hb d_L_law_735 rfl (lv_at hl 2 rfl) ?_
        refine x_ck heq (fun tt fs ha ht heq => ?_)
        obtain rfl : tt = 8 := by simpa using ht
        refine x_nI (mc := 0) (ms := 0) (st := [.int v157]) hLo heq (fun r9 h9 => x_runV hc (c_M_available hc.g rm_M_available rk_M_available _ _ _ h9) md_M_available hR ha rfl wd_925 wd_926 wd_927 hl.1 ml_M_available rfl (Nat.le_of_ble_eq_true rfl) d_L_law_736 ⟨by show 1 + 1 ≤ _; omega, by show 8 + (3 + 11) + (21) ≤ _; omega⟩ ⟨by show cN + 0 + 0 ≤ _; omega, by show sN + 0 + 0 ≤ _; omega⟩) (fun v158 h105 H locs hR hLo heq => ?_)
        refine lv_icmp_eq (tgt := 874) hx hb d_L_law_739 rfl (fun hq => ?_) (fun hq => ?_)
        · rw [if_pos hq] at heq
          refine lv_iinc (k := 4) (v := (x4 + 3)) (lv' := [(4, .int (x4 + 3)), (0, .ref b), (1, .ref x1), (2, .ref x2), (3, .ref x3)]) hx hb d_L_law_874 hl rfl rfl (by decide) rfl (fun ls hl => ?_)
          refine lv_goto (tgt := 23) hx hb d_L_law_877 rfl ?_
          exact hr23 x1 x2 x3 (x4 + 3) h105 H locs ls (cN + 0) (sN + 0) hR hLo (lv_sub hl [1, 2, 3, 4, 0] rfl) (by omega) (by omega) heq
        · rw [if_neg hq] at heq
          refine lv_iconst (v := 0) hx hb d_L_law_742 (by decide) ?_
          cases heq
      rw [if_neg hk14] at heq
      by_cases hk15 : (v1 &&& 31) = 15
      · rw [if_pos hk15] at heq
        refine lv_tableIn (off := 705) (tgt := 744) hx hb d_L_law_39 (by rw [hk15]; decide) (by rw [hk15]; decide) (by rw [hk15]; rfl) rfl ?_
        refine lv_aload_n hx hb d_L_law_744 rfl (lv_at hl 1 rfl) ?_
        refine x_ck heq (fun tt fs ha ht heq => ?_)
        obtain rfl : tt = 0 := by simpa using ht
        refine x_nV (mc := 0) (ms := 0) (st := []) hLo heq (fun r9 h9 => x_runV hc (c_T_close hc.g rm_T_close rk_T_close _ _ _ h9) md_T_close hR ha rfl wd_154 wd_155 wd_156 hl.1 ml_T_close rfl (Nat.le_of_ble_eq_true rfl) d_L_law_745 ⟨by show 0 + 1 ≤ _; omega, by show 8 + (1 + 11) + (0) ≤ _; omega⟩ ⟨by show cN + 0 + 0 ≤ _; omega, by show sN + 0 + 0 ≤ _; omega⟩) (fun h106 H locs hR hLo heq => ?_)
        refine lv_aload_n hx hb d_L_law_748 rfl (lv_at hl 2 rfl) ?_
        refine x_ck heq (fun tt fs ha ht heq => ?_)
        obtain rfl : tt = 8 := by simpa using ht
        refine x_nV (mc := 0) (ms := 0) (st := []) hLo heq (fun r9 h9 => x_runV hc (c_M_close hc.g rm_M_close rk_M_close _ _ _ h9) md_M_close hR ha rfl wd_929 wd_930 wd_931 hl.1 ml_M_close rfl (Nat.le_of_ble_eq_true rfl) d_L_law_749 ⟨by show 0 + 1 ≤ _; omega, by show 8 + (1 + 11) + (0) ≤ _; omega⟩ ⟨by show cN + 0 + 0 ≤ _; omega, by show sN + 0 + 0 ≤ _; omega⟩) (fun h107 H locs hR hLo heq => ?_)
        refine lv_goto (tgt := 874) hx hb d_L_law_752 rfl ?_
        refine lv_iinc (k := 4) (v := (x4 + 3)) (lv' := [(4, .int (x4 + 3)), (0, .ref b), (1, .ref x1), (2, .ref x2), (3, .ref x3)]) hx hb d_L_law_874 hl rfl rfl (by decide) rfl (fun ls hl => ?_)
        refine lv_goto (tgt := 23) hx hb d_L_law_877 rfl ?_
        exact hr23 x1 x2 x3 (x4 + 3) h107 H locs ls (cN + 0) (sN + 0) hR hLo (lv_sub hl [1, 2, 3, 4, 0] rfl) (by omega) (by omega) heq
      rw [if_neg hk15] at heq
      by_cases hk16 : (v1 &&& 31) = 16
      · rw [if_pos hk16] at heq
        refine lv_tableIn (off := 716) (tgt := 755) hx hb d_L_law_39 (by rw [hk16]; decide) (by rw [hk16]; decide) (by rw [hk16]; rfl) rfl ?_
        refine lv_aload_n hx hb d_L_law_755 rfl (lv_at hl 1 rfl) ?_
        refine lv_aload_n hx hb d_L_law_756 rfl (lv_at hl 0 rfl) ?_
        refine lv_iload hx hb d_L_law_757 (lv_at hl 4 rfl) ?_
        refine lv_iconst (v := 1) hx hb d_L_law_759 (by decide) ?_
        refine lv_iadd hx hb d_L_law_760 ?_
        refine x_sc hc hR hX heq d_L_law_761 (fun v159 heq => ?_)
        refine x_ck heq (fun tt fs ha ht heq => ?_)
        obtain rfl : tt = 0 := by simpa using ht
        refine x_nI (mc := 0) (ms := 0) (st := []) hLo heq (fun r9 h9 => x_runV hc (c_T_about hc.g rm_T_about rk_T_about _ _ _ _ h9) md_T_about hR ha rfl wd_158 wd_159 wd_160 hl.1 ml_T_about rfl (Nat.le_of_ble_eq_true rfl) d_L_law_762 ⟨by show 81 + 1 ≤ _; omega, by show 8 + (3 + 11) + (1629) ≤ _; omega⟩ ⟨by show cN + 0 + 0 ≤ _; omega, by show sN + 0 + 0 ≤ _; omega⟩) (fun v160 h108 H locs hR hLo heq => ?_)
        refine lv_aload_n hx hb d_L_law_765 rfl (lv_at hl 2 rfl) ?_
        refine lv_aload_n hx hb d_L_law_766 rfl (lv_at hl 0 rfl) ?_
        refine lv_iload hx hb d_L_law_767 (lv_at hl 4 rfl) ?_
        refine lv_iconst (v := 1) hx hb d_L_law_769 (by decide) ?_
        refine lv_iadd hx hb d_L_law_770 ?_
        refine x_sc hc hR hX heq d_L_law_771 (fun v161 heq => ?_)
        refine x_ck heq (fun tt fs ha ht heq => ?_)
        obtain rfl : tt = 8 := by simpa using ht
        refine x_nI (mc := 0) (ms := 0) (st := [.int v160]) hLo heq (fun r9 h9 => x_runV hc (c_M_about hc.g rm_M_about rk_M_about _ _ _ _ h9) md_M_about hR ha rfl wd_933 wd_934 wd_935 hl.1 ml_M_about rfl (Nat.le_of_ble_eq_true rfl) d_L_law_772 ⟨by show 1 + 1 ≤ _; omega, by show 8 + (2 + 11) + (21) ≤ _; omega⟩ ⟨by show cN + 0 + 0 ≤ _; omega, by show sN + 0 + 0 ≤ _; omega⟩) (fun v162 h109 H locs hR hLo heq => ?_)
        refine lv_icmp_eq (tgt := 874) hx hb d_L_law_775 rfl (fun hq => ?_) (fun hq => ?_)
        · rw [if_pos hq] at heq
          refine lv_iinc (k := 4) (v := (x4 + 3)) (lv' := [(4, .int (x4 + 3)), (0, .ref b), (1, .ref x1), (2, .ref x2), (3, .ref x3)]) hx hb d_L_law_874 hl rfl rfl (by decide) rfl (fun ls hl => ?_)
          refine lv_goto (tgt := 23) hx hb d_L_law_877 rfl ?_
          exact hr23 x1 x2 x3 (x4 + 3) h109 H locs ls (cN + 0) (sN + 0) hR hLo (lv_sub hl [1, 2, 3, 4, 0] rfl) (by omega) (by omega) heq
        · rw [if_neg hq] at heq
          refine lv_iconst (v := 0) hx hb d_L_law_778 (by decide) ?_
          cases heq
      rw [if_neg hk16] at heq
      by_cases hk17 : (v1 &&& 31) = 17
      · rw [if_pos hk17] at heq
        refine lv_tableIn (off := 741) (tgt := 780) hx hb d_L_law_39 (by rw [hk17]; decide) (by rw [hk17]; decide) (by rw [hk17]; rfl) rfl ?_
        refine lv_aload_n hx hb d_L_law_780 rfl (lv_at hl 1 rfl) ?_
        refine lv_aload_n hx hb d_L_law_781 rfl (lv_at hl 0 rfl) ?_
        refine lv_iload hx hb d_L_law_782 (lv_at hl 4 rfl) ?_
        refine lv_iconst (v := 1) hx hb d_L_law_784 (by decide) ?_
        refine lv_iadd hx hb d_L_law_785 ?_
        refine x_sc hc hR hX heq d_L_law_786 (fun v163 heq => ?_)
        refine lv_if_eq (tgt := 794) hx hb d_L_law_787 rfl (fun hq => ?_) (fun hq => ?_)
        · rw [if_pos hq] at heq
          refine lv_iconst (v := 0) hx hb d_L_law_794 (by decide) ?_
          refine x_ck heq (fun tt fs ha ht heq => ?_)
          obtain rfl : tt = 0 := by simpa using ht
          refine x_nI (mc := 0) (ms := 0) (st := []) hLo heq (fun r9 h9 => x_runV hc (c_T_size hc.g rm_T_size rk_T_size _ _ _ _ h9) md_T_size hR ha rfl wd_185 wd_186 wd_187 hl.1 ml_T_size rfl (Nat.le_of_ble_eq_true rfl) d_L_law_795 ⟨by show 1 + 1 ≤ _; omega, by show 8 + (2 + 11) + (21) ≤ _; omega⟩ ⟨by show cN + 0 + 0 ≤ _; omega, by show sN + 0 + 0 ≤ _; omega⟩) (fun v164 h110 H locs hR hLo heq => ?_)
          refine lv_aload_n hx hb d_L_law_798 rfl (lv_at hl 2 rfl) ?_
          refine lv_aload_n hx hb d_L_law_799 rfl (lv_at hl 0 rfl) ?_
          refine lv_iload hx hb d_L_law_800 (lv_at hl 4 rfl) ?_
          refine lv_iconst (v := 1) hx hb d_L_law_802 (by decide) ?_
          refine lv_iadd hx hb d_L_law_803 ?_
          refine x_sc hc hR hX heq d_L_law_804 (fun v165 heq => ?_)
          refine lv_if_eq (tgt := 812) hx hb d_L_law_805 rfl (fun hq => ?_) (fun hq => ?_)
          · rw [if_pos hq] at heq
            refine lv_iconst (v := 0) hx hb d_L_law_812 (by decide) ?_
            refine x_ck heq (fun tt fs ha ht heq => ?_)
            obtain rfl : tt = 8 := by simpa using ht
            refine x_nI (mc := 0) (ms := 0) (st := [.int v164]) hLo heq (fun r9 h9 => x_runV hc (c_M_size hc.g rm_M_size rk_M_size _ _ _ _ h9) md_M_size hR ha rfl wd_937 wd_938 wd_939 hl.1 ml_M_size rfl (Nat.le_of_ble_eq_true rfl) d_L_law_813 ⟨by show 0 + 1 ≤ _; omega, by show 8 + (2 + 11) + (0) ≤ _; omega⟩ ⟨by show cN + 0 + 0 ≤ _; omega, by show sN + 0 + 0 ≤ _; omega⟩) (fun v166 h111 H locs hR hLo heq => ?_)
            refine lv_icmp_eq (tgt := 874) hx hb d_L_law_816 rfl (fun hq => ?_) (fun hq => ?_)
            · rw [if_pos hq] at heq
              refine lv_iinc (k := 4) (v := (x4 + 3)) (lv' := [(4, .int (x4 + 3)), (0, .ref b), (1, .ref x1), (2, .ref x2), (3, .ref x3)]) hx hb d_L_law_874 hl rfl rfl (by decide) rfl (fun ls hl => ?_)
              refine lv_goto (tgt := 23) hx hb d_L_law_877 rfl ?_
              exact hr23 x1 x2 x3 (x4 + 3) h111 H locs ls (cN + 0) (sN + 0) hR hLo (lv_sub hl [1, 2, 3, 4, 0] rfl) (by omega) (by omega) heq
            · rw [if_neg hq] at heq
              refine lv_iconst (v := 0) hx hb d_L_law_819 (by decide) ?_
              cases heq
          · rw [if_neg hq] at heq
            refine lv_iconst (v := 1) hx hb d_L_law_808 (by decide) ?_
            refine lv_goto (tgt := 813) hx hb d_L_law_809 rfl ?_
            refine x_ck heq (fun tt fs ha ht heq => ?_)
            obtain rfl : tt = 8 := by simpa using ht
            refine x_nI (mc := 0) (ms := 0) (st := [.int v164]) hLo heq (fun r9 h9 => x_runV hc (c_M_size hc.g rm_M_size rk_M_size _ _ _ _ h9) md_M_size hR ha rfl wd_937 wd_938 wd_939 hl.1 ml_M_size rfl (Nat.le_of_ble_eq_true rfl) d_L_law_813 ⟨by show 0 + 1 ≤ _; omega, by show 8 + (2 + 11) + (0) ≤ _; omega⟩ ⟨by show cN + 0 + 0 ≤ _; omega, by show sN + 0 + 0 ≤ _; omega⟩) (fun v167 h112 H locs hR hLo heq => ?_)
            refine lv_icmp_eq (tgt := 874) hx hb d_L_law_816 rfl (fun hq => ?_) (fun hq => ?_)
            · rw [if_pos hq] at heq
              refine lv_iinc (k := 4) (v := (x4 + 3)) (lv' := [(4, .int (x4 + 3)), (0, .ref b), (1, .ref x1), (2, .ref x2), (3, .ref x3)]) hx hb d_L_law_874 hl rfl rfl (by decide) rfl (fun ls hl => ?_)
              refine lv_goto (tgt := 23) hx hb d_L_law_877 rfl ?_
              exact hr23 x1 x2 x3 (x4 + 3) h112 H locs ls (cN + 0) (sN + 0) hR hLo (lv_sub hl [1, 2, 3, 4, 0] rfl) (by omega) (by omega) heq
            · rw [if_neg hq] at heq
              refine lv_iconst (v := 0) hx hb d_L_law_819 (by decide) ?_
              cases heq
        · rw [if_neg hq] at heq
          refine lv_iconst (v := 1) hx hb d_L_law_790 (by decide) ?_
          refine lv_goto (tgt := 795) hx hb d_L_law_791 rfl ?_
          refine x_ck heq (fun tt fs ha ht heq => ?_)
          obtain rfl : tt = 0 := by simpa using ht
          refine x_nI (mc := 0) (ms := 0) (st := []) hLo heq (fun r9 h9 => x_runV hc (c_T_size hc.g rm_T_size rk_T_size _ _ _ _ h9) md_T_size hR ha rfl wd_185 wd_186 wd_187 hl.1 ml_T_size rfl (Nat.le_of_ble_eq_true rfl) d_L_law_795 ⟨by show 1 + 1 ≤ _; omega, by show 8 + (2 + 11) + (21) ≤ _; omega⟩ ⟨by show cN + 0 + 0 ≤ _; omega, by show sN + 0 + 0 ≤ _; omega⟩) (fun v168 h113 H locs hR hLo heq => ?_)
          refine lv_aload_n hx hb d_L_law_798 rfl (lv_at hl 2 rfl) ?_
          refine lv_aload_n hx hb d_L_law_799 rfl (lv_at hl 0 rfl) ?_
          refine lv_iload hx hb d_L_law_800 (lv_at hl 4 rfl) ?_
          refine lv_iconst (v := 1) hx hb d_L_law_802 (by decide) ?_
          refine lv_iadd hx hb d_L_law_803 ?_
          refine x_sc hc hR hX heq d_L_law_804 (fun v169 heq => ?_)
          refine lv_if_eq (tgt := 812) hx hb d_L_law_805 rfl (fun hq => ?_) (fun hq => ?_)
          · rw [if_pos hq] at heq
            refine lv_iconst (v := 0) hx hb d_L_law_812 (by decide) ?_
            refine x_ck heq (fun tt fs ha ht heq => ?_)
            obtain rfl : tt = 8 := by simpa using ht
            refine x_nI (mc := 0) (ms := 0) (st := [.int v168]) hLo heq (fun r9 h9 => x_runV hc (c_M_size hc.g rm_M_size rk_M_size _ _ _ _ h9) md_M_size hR ha rfl wd_937 wd_938 wd_939 hl.1 ml_M_size rfl (Nat.le_of_ble_eq_true rfl) d_L_law_813 ⟨by show 0 + 1 ≤ _; omega, by show 8 + (2 + 11) + (0) ≤ _; omega⟩ ⟨by show cN + 0 + 0 ≤ _; omega, by show sN + 0 + 0 ≤ _; omega⟩) (fun v170 h114 H locs hR hLo heq => ?_)
            refine lv_icmp_eq (tgt := 874) hx hb d_L_law_816 rfl (fun hq => ?_) (fun hq => ?_)
            · rw [if_pos hq] at heq
              refine lv_iinc (k := 4) (v := (x4 + 3)) (lv' := [(4, .int (x4 + 3)), (0, .ref b), (1, .ref x1), (2, .ref x2), (3, .ref x3)]) hx hb d_L_law_874 hl rfl rfl (by decide) rfl (fun ls hl => ?_)
              refine lv_goto (tgt := 23) hx hb d_L_law_877 rfl ?_
              exact hr23 x1 x2 x3 (x4 + 3) h114 H locs ls (cN + 0) (sN + 0) hR hLo (lv_sub hl [1, 2, 3, 4, 0] rfl) (by omega) (by omega) heq
            · rw [if_neg hq] at heq
              refine lv_iconst (v := 0) hx hb d_L_law_819 (by decide) ?_
              cases heq
          · rw [if_neg hq] at heq
            refine lv_iconst (v := 1) hx hb d_L_law_808 (by decide) ?_
            refine lv_goto (tgt := 813) hx hb d_L_law_809 rfl ?_
            refine x_ck heq (fun tt fs ha ht heq => ?_)
            obtain rfl : tt = 8 := by simpa using ht
            refine x_nI (mc := 0) (ms := 0) (st := [.int v168]) hLo heq (fun r9 h9 => x_runV hc (c_M_size hc.g rm_M_size rk_M_size _ _ _ _ h9) md_M_size hR ha rfl wd_937 wd_938 wd_939 hl.1 ml_M_size rfl (Nat.le_of_ble_eq_true rfl) d_L_law_813 ⟨by show 0 + 1 ≤ _; omega, by show 8 + (2 + 11) + (0) ≤ _; omega⟩ ⟨by show cN + 0 + 0 ≤ _; omega, by show sN + 0 + 0 ≤ _; omega⟩) (fun v171 h115 H locs hR hLo heq => ?_)
            refine lv_icmp_eq (tgt := 874) hx hb d_L_law_816 rfl (fun hq => ?_) (fun hq => ?_)
            · rw [if_pos hq] at heq
              refine lv_iinc (k := 4) (v := (x4 + 3)) (lv' := [(4, .int (x4 + 3)), (0, .ref b), (1, .ref x1), (2, .ref x2), (3, .ref x3)]) hx hb d_L_law_874 hl rfl rfl (by decide) rfl (fun ls hl => ?_)
              refine lv_goto (tgt := 23) hx hb d_L_law_877 rfl ?_
              exact hr23 x1 x2 x3 (x4 + 3) h115 H locs ls (cN + 0) (sN + 0) hR hLo (lv_sub hl [1, 2, 3, 4, 0] rfl) (by omega) (by omega) heq
            · rw [if_neg hq] at heq
              refine lv_iconst (v := 0) hx hb d_L_law_819 (by decide) ?_
              cases heq
      rw [if_neg hk17] at heq
      by_cases hk18 : (v1 &&& 31) = 18
      · rw [if_pos hk18] at heq
        refine lv_tableIn (off := 782) (tgt := 821) hx hb d_L_law_39 (by rw [hk18]; decide) (by rw [hk18]; decide) (by rw [hk18]; rfl) rfl ?_
        refine lv_aload_n hx hb d_L_law_821 rfl (lv_at hl 1 rfl) ?_
        refine lv_aload_n hx hb d_L_law_822 rfl (lv_at hl 0 rfl) ?_
        refine lv_iload hx hb d_L_law_823 (lv_at hl 4 rfl) ?_
        refine lv_iconst (v := 1) hx hb d_L_law_825 (by decide) ?_
        refine lv_iadd hx hb d_L_law_826 ?_
        refine x_sc hc hR hX heq d_L_law_827 (fun v172 heq => ?_)
        refine lv_aload_n hx hb d_L_law_828 rfl (lv_at hl 0 rfl) ?_
        refine lv_iload hx hb d_L_law_829 (lv_at hl 4 rfl) ?_
        refine lv_iconst (v := 2) hx hb d_L_law_831 (by decide) ?_
        refine lv_iadd hx hb d_L_law_832 ?_
        refine x_sc hc hR hX heq d_L_law_833 (fun v173 heq => ?_)
        refine lv_if_eq (tgt := 841) hx hb d_L_law_834 rfl (fun hq => ?_) (fun hq => ?_)
        · rw [if_pos hq] at heq
          refine lv_iconst (v := 0) hx hb d_L_law_841 (by decide) ?_
          refine x_ck heq (fun tt fs ha ht heq => ?_)
          obtain rfl : tt = 0 := by simpa using ht
          refine x_nI (mc := 0) (ms := 0) (st := []) hLo heq (fun r9 h9 => x_runV hc (c_T_at hc.g rm_T_at rk_T_at _ _ _ _ _ h9) md_T_at hR ha rfl wd_193 wd_194 wd_195 hl.1 ml_T_at rfl (Nat.le_of_ble_eq_true rfl) d_L_law_842 ⟨by show 1 + 1 ≤ _; omega, by show 8 + (3 + 11) + (21) ≤ _; omega⟩ ⟨by show cN + 0 + 0 ≤ _; omega, by show sN + 0 + 0 ≤ _; omega⟩) (fun v174 h116 H locs hR hLo heq => ?_)
          refine lv_aload_n hx hb d_L_law_845 rfl (lv_at hl 2 rfl) ?_
          refine lv_aload_n hx hb d_L_law_846 rfl (lv_at hl 0 rfl) ?_
          refine lv_iload hx hb d_L_law_847 (lv_at hl 4 rfl) ?_
          refine lv_iconst (v := 1) hx hb d_L_law_849 (by decide) ?_
          refine lv_iadd hx hb d_L_law_850 ?_
          refine x_sc hc hR hX heq d_L_law_851 (fun v175 heq => ?_)
          refine lv_aload_n hx hb d_L_law_852 rfl (lv_at hl 0 rfl) ?_
          refine lv_iload hx hb d_L_law_853 (lv_at hl 4 rfl) ?_
          refine lv_iconst (v := 2) hx hb d_L_law_855 (by decide) ?_
          refine lv_iadd hx hb d_L_law_856 ?_
          refine x_sc hc hR hX heq d_L_law_857 (fun v176 heq => ?_)
          refine lv_if_eq (tgt := 865) hx hb d_L_law_858 rfl (fun hq => ?_) (fun hq => ?_)
          · rw [if_pos hq] at heq
            refine lv_iconst (v := 0) hx hb d_L_law_865 (by decide) ?_
            refine x_ck heq (fun tt fs ha ht heq => ?_)
            obtain rfl : tt = 8 := by simpa using ht
            refine x_nI (mc := 0) (ms := 0) (st := [.int v174]) hLo heq (fun r9 h9 => x_runV hc (c_M_at hc.g rm_M_at rk_M_at _ _ _ _ _ h9) md_M_at hR ha rfl wd_941 wd_942 wd_943 hl.1 ml_M_at rfl (Nat.le_of_ble_eq_true rfl) d_L_law_866 ⟨by show 0 + 1 ≤ _; omega, by show 8 + (3 + 11) + (0) ≤ _; omega⟩ ⟨by show cN + 0 + 0 ≤ _; omega, by show sN + 0 + 0 ≤ _; omega⟩) (fun v177 h117 H locs hR hLo heq => ?_)
            refine lv_icmp_eq (tgt := 874) hx hb d_L_law_869 rfl (fun hq => ?_) (fun hq => ?_)
            · rw [if_pos hq] at heq
              refine lv_iinc (k := 4) (v := (x4 + 3)) (lv' := [(4, .int (x4 + 3)), (0, .ref b), (1, .ref x1), (2, .ref x2), (3, .ref x3)]) hx hb d_L_law_874 hl rfl rfl (by decide) rfl (fun ls hl => ?_)
              refine lv_goto (tgt := 23) hx hb d_L_law_877 rfl ?_
              exact hr23 x1 x2 x3 (x4 + 3) h117 H locs ls (cN + 0) (sN + 0) hR hLo (lv_sub hl [1, 2, 3, 4, 0] rfl) (by omega) (by omega) heq
            · rw [if_neg hq] at heq
              refine lv_iconst (v := 0) hx hb d_L_law_872 (by decide) ?_
              cases heq
          · rw [if_neg hq] at heq
            refine lv_iconst (v := 1) hx hb d_L_law_861 (by decide) ?_
            refine lv_goto (tgt := 866) hx hb d_L_law_862 rfl ?_
            refine x_ck heq (fun tt fs ha ht heq => ?_)
            obtain rfl : tt = 8 := by simpa using ht
            refine x_nI (mc := 0) (ms := 0) (st := [.int v174]) hLo heq (fun r9 h9 => x_runV hc (c_M_at hc.g rm_M_at rk_M_at _ _ _ _ _ h9) md_M_at hR ha rfl wd_941 wd_942 wd_943 hl.1 ml_M_at rfl (Nat.le_of_ble_eq_true rfl) d_L_law_866 ⟨by show 0 + 1 ≤ _; omega, by show 8 + (3 + 11) + (0) ≤ _; omega⟩ ⟨by show cN + 0 + 0 ≤ _; omega, by show sN + 0 + 0 ≤ _; omega⟩) (fun v178 h118 H locs hR hLo heq => ?_)
            refine lv_icmp_eq (tgt := 874) hx hb d_L_law_869 rfl (fun hq => ?_) (fun hq => ?_)
            · rw [if_pos hq] at heq
              refine lv_iinc (k := 4) (v := (x4 + 3)) (lv' := [(4, .int (x4 + 3)), (0, .ref b), (1, .ref x1), (2, .ref x2), (3, .ref x3)]) hx hb d_L_law_874 hl rfl rfl (by decide) rfl (fun ls hl => ?_)
              refine lv_goto (tgt := 23) hx hb d_L_law_877 rfl ?_
              exact hr23 x1 x2 x3 (x4 + 3) h118 H locs ls (cN + 0) (sN + 0) hR hLo (lv_sub hl [1, 2, 3, 4, 0] rfl) (by omega) (by omega) heq
            · rw [if_neg hq] at heq
              refine lv_iconst (v := 0) hx hb d_L_law_872 (by decide) ?_
              cases heq
        · rw [if_neg hq] at heq
          refine lv_iconst (v := 1) hx hb d_L_law_837 (by decide) ?_
          refine lv_goto (tgt := 842) hx hb d_L_law_838 rfl ?_
          refine x_ck heq (fun tt fs ha ht heq => ?_)
          obtain rfl : tt = 0 := by simpa using ht
          refine x_nI (mc := 0) (ms := 0) (st := []) hLo heq (fun r9 h9 => x_runV hc (c_T_at hc.g rm_T_at rk_T_at _ _ _ _ _ h9) md_T_at hR ha rfl wd_193 wd_194 wd_195 hl.1 ml_T_at rfl (Nat.le_of_ble_eq_true rfl) d_L_law_842 ⟨by show 1 + 1 ≤ _; omega, by show 8 + (3 + 11) + (21) ≤ _; omega⟩ ⟨by show cN + 0 + 0 ≤ _; omega, by show sN + 0 + 0 ≤ _; omega⟩) (fun v179 h119 H locs hR hLo heq => ?_)
          refine lv_aload_n hx hb d_L_law_845 rfl (lv_at hl 2 rfl) ?_
          refine lv_aload_n hx hb d_L_law_846 rfl (lv_at hl 0 rfl) ?_
          refine lv_iload hx hb d_L_law_847 (lv_at hl 4 rfl) ?_
          refine lv_iconst (v := 1) hx hb d_L_law_849 (by decide) ?_
          refine lv_iadd hx hb d_L_law_850 ?_
          refine x_sc hc hR hX heq d_L_law_851 (fun v180 heq => ?_)
          refine lv_aload_n hx hb d_L_law_852 rfl (lv_at hl 0 rfl) ?_
          refine lv_iload hx hb d_L_law_853 (lv_at hl 4 rfl) ?_
          refine lv_iconst (v := 2) hx hb d_L_law_855 (by decide) ?_
          refine lv_iadd hx hb d_L_law_856 ?_
          refine x_sc hc hR hX heq d_L_law_857 (fun v181 heq => ?_)
          refine lv_if_eq (tgt := 865) hx hb d_L_law_858 rfl (fun hq => ?_) (fun hq => ?_)
          · rw [if_pos hq] at heq
            refine lv_iconst (v := 0) hx hb d_L_law_865 (by decide) ?_
            refine x_ck heq (fun tt fs ha ht heq => ?_)
            obtain rfl : tt = 8 := by simpa using ht
            refine x_nI (mc := 0) (ms := 0) (st := [.int v179]) hLo heq (fun r9 h9 => x_runV hc (c_M_at hc.g rm_M_at rk_M_at _ _ _ _ _ h9) md_M_at hR ha rfl wd_941 wd_942 wd_943 hl.1 ml_M_at rfl (Nat.le_of_ble_eq_true rfl) d_L_law_866 ⟨by show 0 + 1 ≤ _; omega, by show 8 + (3 + 11) + (0) ≤ _; omega⟩ ⟨by show cN + 0 + 0 ≤ _; omega, by show sN + 0 + 0 ≤ _; omega⟩) (fun v182 h120 H locs hR hLo heq => ?_)
            refine lv_icmp_eq (tgt := 874) hx hb d_L_law_869 rfl (fun hq => ?_) (fun hq => ?_)
            · rw [if_pos hq] at heq
              refine lv_iinc (k := 4) (v := (x4 + 3)) (lv' := [(4, .int (x4 + 3)), (0, .ref b), (1, .ref x1), (2, .ref x2), (3, .ref x3)]) hx hb d_L_law_874 hl rfl rfl (by decide) rfl (fun ls hl => ?_)
              refine lv_goto (tgt := 23) hx hb d_L_law_877 rfl ?_
              exact hr23 x1 x2 x3 (x4 + 3) h120 H locs ls (cN + 0) (sN + 0) hR hLo (lv_sub hl [1, 2, 3, 4, 0] rfl) (by omega) (by omega) heq
            · rw [if_neg hq] at heq
              refine lv_iconst (v := 0) hx hb d_L_law_872 (by decide) ?_
              cases heq
          · rw [if_neg hq] at heq
            refine lv_iconst (v := 1) hx hb d_L_law_861 (by decide) ?_
            refine lv_goto (tgt := 866) hx hb d_L_law_862 rfl ?_
            refine x_ck heq (fun tt fs ha ht heq => ?_)
            obtain rfl : tt = 8 := by simpa using ht
            refine x_nI (mc := 0) (ms := 0) (st := [.int v179]) hLo heq (fun r9 h9 => x_runV hc (c_M_at hc.g rm_M_at rk_M_at _ _ _ _ _ h9) md_M_at hR ha rfl wd_941 wd_942 wd_943 hl.1 ml_M_at rfl (Nat.le_of_ble_eq_true rfl) d_L_law_866 ⟨by show 0 + 1 ≤ _; omega, by show 8 + (3 + 11) + (0) ≤ _; omega⟩ ⟨by show cN + 0 + 0 ≤ _; omega, by show sN + 0 + 0 ≤ _; omega⟩) (fun v183 h121 H locs hR hLo heq => ?_)
            refine lv_icmp_eq (tgt := 874) hx hb d_L_law_869 rfl (fun hq => ?_) (fun hq => ?_)
            · rw [if_pos hq] at heq
              refine lv_iinc (k := 4) (v := (x4 + 3)) (lv' := [(4, .int (x4 + 3)), (0, .ref b), (1, .ref x1), (2, .ref x2), (3, .ref x3)]) hx hb d_L_law_874 hl rfl rfl (by decide) rfl (fun ls hl => ?_)
              refine lv_goto (tgt := 23) hx hb d_L_law_877 rfl ?_
              exact hr23 x1 x2 x3 (x4 + 3) h121 H locs ls (cN + 0) (sN + 0) hR hLo (lv_sub hl [1, 2, 3, 4, 0] rfl) (by omega) (by omega) heq
            · rw [if_neg hq] at heq
              refine lv_iconst (v := 0) hx hb d_L_law_872 (by decide) ?_
              cases heq
      rw [if_neg hk18] at heq
      have hko : ((v1 &&& 31) : Int32).toInt < 0 ∨ 18 < ((v1 &&& 31) : Int32).toInt := by
        have z0 := lv_neT (a := 0) hk0 (by decide)
        have z1 := lv_neT (a := 1) hk1 (by decide)
        have z2 := lv_neT (a := 2) hk2 (by decide)
        have z3 := lv_neT (a := 3) hk3 (by decide)
        have z4 := lv_neT (a := 4) hk4 (by decide)
        have z5 := lv_neT (a := 5) hk5 (by decide)
        have z6 := lv_neT (a := 6) hk6 (by decide)
        have z7 := lv_neT (a := 7) hk7 (by decide)
        have z8 := lv_neT (a := 8) hk8 (by decide)
        have z9 := lv_neT (a := 9) hk9 (by decide)
        have z10 := lv_neT (a := 10) hk10 (by decide)
        have z11 := lv_neT (a := 11) hk11 (by decide)
        have z12 := lv_neT (a := 12) hk12 (by decide)
        have z13 := lv_neT (a := 13) hk13 (by decide)
        have z14 := lv_neT (a := 14) hk14 (by decide)
        have z15 := lv_neT (a := 15) hk15 (by decide)
        have z16 := lv_neT (a := 16) hk16 (by decide)
        have z17 := lv_neT (a := 17) hk17 (by decide)
        have z18 := lv_neT (a := 18) hk18 (by decide)
        omega
      refine lv_tableOut (tgt := 874) hx hb d_L_law_39 hko rfl ?_
      refine lv_iinc (k := 4) (v := (x4 + 3)) (lv' := [(4, .int (x4 + 3)), (0, .ref b), (1, .ref x1), (2, .ref x2), (3, .ref x3)]) hx hb d_L_law_874 hl rfl rfl (by decide) rfl (fun ls hl => ?_)
      refine lv_goto (tgt := 23) hx hb d_L_law_877 rfl ?_
      exact hr23 x1 x2 x3 (x4 + 3) h0 H locs ls (cN + 0) (sN + 0) hR hLo (lv_sub hl [1, 2, 3, 4, 0] rfl) (by omega) (by omega) heq
set_option maxRecDepth 100000 in
set_option maxHeartbeats 4000000 in
theorem c_L_law {p : Program} {l : Launch} {e : Env} {s : State} {m : MethodId} {b : Nat} {below : List Frame} {meth : Method} {c : Code} {A0 : Array Value} {G : Gx_t} {r : Outcome × Hs_t} {scL : Nat} {scX : Nat → Int32} (hc : Cx_t p s m meth c s A0 l G x code 8 ret []) (hX : sc_Ok b scL scX s) (h0 : Hs_t) (H : Heap) (hR : Rp_h G s.heap h0 H) (heq : f_L_law scL scX h0 = some r) : W p l e room_1 s m #[Value.ref b] below meth c H [] 0 0 (lw_Z below #[Value.ref b] s) (entryFrame m ([Value.ref b] : List Value).toArray 8) := by
  have hx := hc.x
  have hb := hc.b
  have hm1 : room_1.cells = 601024 := rfl
  have hm2 : room_1.slots = 7293034 := rfl
  have hm3 : room_1.frames = 2048 := rfl
  have hm4 : room_1.locals = 84000 := rfl
  have hLo : Lo_k s [] := fun _ hq => absurd hq List.not_mem_nil
  have hl := lv_entry ([.ref b]) (n := 8) (Nat.le_of_ble_eq_true rfl)
  rw [lg_entry_eq]
  generalize (lg_sl ([.ref b]) ++ List.replicate (8 - (lg_sl ([.ref b])).length) Slot.unset).toArray = ls at hl ⊢
  have hl : lv_has ls 8 [(0, .ref b)] := hl
  generalize hle : ([] : List Loc) = locs at hLo ⊢
  unfold f_L_law at heq
  refine x_new hc hR nw_L_8 ⟨by omega, by omega⟩ heq d_L_law_0 (fun h1 H hR heq => ?_)
  refine lv_dup hx hb d_L_law_3 rfl ?_
  refine x_nV (mc := 10) (ms := 816) (st := [.ref h0.1]) hLo heq (fun r9 h9 => x_runI hc (c_T_init hc.g rm_T_init rk_T_init _ _ _ h9) md_T_init hR wd_23 wd_24 rfl ⟨_, rfl⟩ hl.1 ml_T_init rfl (Nat.le_of_ble_eq_true rfl) d_L_law_4 ⟨by show 3 + 1 ≤ _; omega, by show 8 + (1 + 11) + (52) ≤ _; omega⟩ ⟨by show 1 + 10 ≤ _; omega, by show 10 + 816 ≤ _; omega⟩) (fun h2 H locs hR hLo heq => ?_)
  refine lv_astore_n (lv' := [(1, .ref h0.1), (0, .ref b)]) hx hb d_L_law_7 rfl hl (by decide) rfl (fun ls hl => ?_)
  refine x_new hc hR nw_L_59 ⟨by omega, by omega⟩ heq d_L_law_8 (fun h3 H hR heq => ?_)
  refine lv_dup hx hb d_L_law_11 rfl ?_
  refine x_nV (mc := 18) (ms := 1577) (st := [.ref h2.1]) hLo heq (fun r9 h9 => x_runI hc (c_M_init hc.g rm_M_init rk_M_init _ _ _ h9) md_M_init hR wd_708 wd_709 rfl ⟨_, rfl⟩ hl.1 ml_M_init rfl (Nat.le_of_ble_eq_true rfl) d_L_law_12 ⟨by show 1 + 1 ≤ _; omega, by show 8 + (1 + 11) + (12) ≤ _; omega⟩ ⟨by show 12 + 18 ≤ _; omega, by show 854 + 1577 ≤ _; omega⟩) (fun h4 H locs hR hLo heq => ?_)
  refine lv_astore_n (lv' := [(2, .ref h2.1), (1, .ref h0.1), (0, .ref b)]) hx hb d_L_law_15 rfl hl (by decide) rfl (fun ls hl => ?_)
  refine lv_iconst (v := 1) hx hb d_L_law_16 (by decide) ?_
  refine x_newL hc hR wd_945 (by decide) ⟨by omega, by omega⟩ heq d_L_law_17 (fun h5 H hR heq => ?_)
  refine lv_astore_n (lv' := [(3, .ref h4.1), (2, .ref h2.1), (1, .ref h0.1), (0, .ref b)]) hx hb d_L_law_19 rfl hl (by decide) rfl (fun ls hl => ?_)
  refine lv_iconst (v := 0) hx hb d_L_law_20 (by decide) ?_
  refine lv_istore (lv' := [(4, .int 0), (3, .ref h4.1), (2, .ref h2.1), (1, .ref h0.1), (0, .ref b)]) hx hb d_L_law_21 hl (by decide) rfl (fun ls hl => ?_)
  exact k_L_law_b23 hc hX fl_N h0.1 h2.1 h4.1 0 h5 H locs ls 31 2432 hR hLo (lv_sub hl [4, 3, 2, 1, 0] rfl) (by show _ + _ * 600 ≤ _; omega) (by show _ + _ * 600 ≤ _; omega) heq
