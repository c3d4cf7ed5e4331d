/-! available, about, feed, unread. -/
def rv : List Ly_t → Sr_t → Nat
  | [], s => pl_N s
  | .inl (_, _, tg, _) :: ls, s => tg.length + rv ls s
  | .inr (.inl (_, st)) :: ls, s => st.length + rv ls s
  | .inr (.inr (.inl (lf, _))) :: ls, s => min lf (rv ls s)
  | .inr (.inr (.inr _)) :: ls, s => rv ls s
theorem rv_le (ls : List Ly_t) (s : Sr_t) (hv : iv_O ls s) : rv ls s ≤ 120 + 48 * ls.length := by
  induction ls with
  | nil => have := pl_le s hv.1; have := hv.2.1; simp only [rv]; omega
  | cons L ls ih =>
    have h := ih hv.2.2
    match L, hv with
    | .inl (rm, kp, tg, mq), hv => have := hv.1.2.2.2.2.1; have := hv.1.2.1; simp only [rv, List.length_cons]; omega
    | .inr (.inl (rm, st)), hv => have := hv.1.2.2.2; have := hv.1.2.1; simp only [rv, List.length_cons]; omega
    | .inr (.inr (.inl (lf, lm))), hv => simp only [rv, List.length_cons]; omega
    | .inr (.inr (.inr L)), hv => simp only [rv, List.length_cons]; omega
theorem T_ready (b : Nat) (h : Hs_t) (s : Sr_t) : ∀ (as : List Nat) (ls : List Ly_t) (d : Nat), iv_O ls s → ls.length ≤ 5 → RLc b h as ls → RSc b h s → ls.length + 1 ≤ d → v_ready d (hd_N2 b as) h = re_I (ni (rv ls s)) h
  | [], [], d + 1, hv, hL, hR, hS, hd => by
    rw [v_ready]
    have a1 := hS.1
    simp only [hd_N2, tg_O, a1, if_true]
    exact S_ready b h s hS hv
  | e :: as, L :: ls, d + 1, hv, hL, hR, hS, hd => by
    have hL' : ls.length + 1 ≤ 5 := hL
    have hd' : ls.length + 1 + 1 ≤ d + 1 := hd
    have ih := T_ready b h s as ls d hv.2.2 (by omega) hR.2 hS (by omega)
    have hle := rv_le ls s hv.2.2
    rw [v_ready]
    simp only [hd_N2]
    match L, hv, hR with
    | .inl (rm, kp, tg, mq), hv, hR =>
      obtain ⟨fi, f, mz, ml, c0, c1, c2⟩ := hR.1.1
      simp only [tg_O, c0, if_true, if_false, Nat.reduceEqDiff]
      rw [f_Buf_ready]
      simp only [fd_I, fd_V, fd_A, pt_V, pt_Z, ar_I, ar_Z, ar_R, as_I, as_Z, cp_I, ln_A, ck_T, tg_O, hp_2, List.contains_cons, List.contains_nil, List.getElem?_cons_zero, List.getElem?_cons_succ, List.set_cons_succ, List.set_cons_zero, List.length_cons, List.length_nil, Option.bind_some, Option.bind_none, Nat.reduceLT, Nat.reduceAdd, Nat.reduceBEq, BEq.rfl, beq_self_eq_true, Bool.or_false, Bool.or_true, Bool.true_or, Bool.false_or, decide_true, decide_false, Bool.not_false, Bool.not_true, Nat.zero_lt_succ, Nat.lt_add_left_iff_pos, Nat.succ_ne_self, ne_eq, not_false_eq_true, eq_self, if_true, if_false, ite_true, ite_false, bd_I, bd_V, bd_A, bd_L, re_I, re_V, Bool.true_and, Bool.and_true, reduceIte, reduceCtorEq, ↓reduceIte, Nat.reduceEqDiff, c0, ih, ni_sub2, ni_add]
      rfl
    | .inr (.inl (rm, st)), hv, hR =>
      obtain ⟨f, c0, c1⟩ := hR.1.1
      simp only [tg_O, c0, if_true, if_false, Nat.reduceEqDiff]
      rw [f_Psh_ready]
      simp only [fd_I, fd_V, fd_A, pt_V, pt_Z, ar_I, ar_Z, ar_R, as_I, as_Z, cp_I, ln_A, ck_T, tg_O, hp_2, List.contains_cons, List.contains_nil, List.getElem?_cons_zero, List.getElem?_cons_succ, List.set_cons_succ, List.set_cons_zero, List.length_cons, List.length_nil, Option.bind_some, Option.bind_none, Nat.reduceLT, Nat.reduceAdd, Nat.reduceBEq, BEq.rfl, beq_self_eq_true, Bool.or_false, Bool.or_true, Bool.true_or, Bool.false_or, decide_true, decide_false, Bool.not_false, Bool.not_true, Nat.zero_lt_succ, Nat.lt_add_left_iff_pos, Nat.succ_ne_self, ne_eq, not_false_eq_true, eq_self, if_true, if_false, ite_true, ite_false, bd_I, bd_V, bd_A, bd_L, re_I, re_V, Bool.true_and, Bool.and_true, reduceIte, reduceCtorEq, ↓reduceIte, Nat.reduceEqDiff, c0, ih, ni_add]
      rfl
    | .inr (.inr (.inl (lf, lm))), hv, hR =>
      have c0 : h.2 (e / 2) = some (ce_O 5 [.ref (hd_N2 b as), .int (ni lf), .int (ni lm)]) := hR.1.1
      have := hv.1.1
      simp only [tg_O, c0, if_true, if_false, Nat.reduceEqDiff]
      rw [f_Lim_ready]
      simp only [fd_I, fd_V, fd_A, pt_V, pt_Z, ar_I, ar_Z, ar_R, as_I, as_Z, cp_I, ln_A, ck_T, tg_O, hp_2, List.contains_cons, List.contains_nil, List.getElem?_cons_zero, List.getElem?_cons_succ, List.set_cons_succ, List.set_cons_zero, List.length_cons, List.length_nil, Option.bind_some, Option.bind_none, Nat.reduceLT, Nat.reduceAdd, Nat.reduceBEq, BEq.rfl, beq_self_eq_true, Bool.or_false, Bool.or_true, Bool.true_or, Bool.false_or, decide_true, decide_false, Bool.not_false, Bool.not_true, Nat.zero_lt_succ, Nat.lt_add_left_iff_pos, Nat.succ_ne_self, ne_eq, not_false_eq_true, eq_self, if_true, if_false, ite_true, ite_false, bd_I, bd_V, bd_A, bd_L, re_I, re_V, Bool.true_and, Bool.and_true, reduceIte, reduceCtorEq, ↓reduceIte, Nat.reduceEqDiff, c0, ih, mn_I (show rv ls s < 2147483648 by omega) (show lf < 2147483648 by omega)]
      rfl
    | .inr (.inr (.inr (.inl (key, cd, cm)))), hv, hR =>
      have c0 : h.2 (e / 2) = some (ce_O 6 [.ref (hd_N2 b as), .int key, .int cd, .int cm]) := hR.1.1
      simp only [tg_O, c0, if_true, if_false, Nat.reduceEqDiff]
      rw [f_Pas_ready]
      simp only [fd_I, fd_V, fd_A, pt_V, pt_Z, ar_I, ar_Z, ar_R, as_I, as_Z, cp_I, ln_A, ck_T, tg_O, hp_2, List.contains_cons, List.contains_nil, List.getElem?_cons_zero, List.getElem?_cons_succ, List.set_cons_succ, List.set_cons_zero, List.length_cons, List.length_nil, Option.bind_some, Option.bind_none, Nat.reduceLT, Nat.reduceAdd, Nat.reduceBEq, BEq.rfl, beq_self_eq_true, Bool.or_false, Bool.or_true, Bool.true_or, Bool.false_or, decide_true, decide_false, Bool.not_false, Bool.not_true, Nat.zero_lt_succ, Nat.lt_add_left_iff_pos, Nat.succ_ne_self, ne_eq, not_false_eq_true, eq_self, if_true, if_false, ite_true, ite_false, bd_I, bd_V, bd_A, bd_L, re_I, re_V, Bool.true_and, Bool.and_true, reduceIte, reduceCtorEq, ↓reduceIte, Nat.reduceEqDiff, c0, ih]
      rfl
    | .inr (.inr (.inr (.inr (q, em, cr, crm)))), hv, hR =>
      have c0 : h.2 (e / 2) = some (ce_O 7 [.ref (hd_N2 b as), .int q, .int em, .int cr, .int crm]) := hR.1.1
      simp only [tg_O, c0, if_true, if_false, Nat.reduceEqDiff]
      rw [f_Pas_ready]
      simp only [fd_I, fd_V, fd_A, pt_V, pt_Z, ar_I, ar_Z, ar_R, as_I, as_Z, cp_I, ln_A, ck_T, tg_O, hp_2, List.contains_cons, List.contains_nil, List.getElem?_cons_zero, List.getElem?_cons_succ, List.set_cons_succ, List.set_cons_zero, List.length_cons, List.length_nil, Option.bind_some, Option.bind_none, Nat.reduceLT, Nat.reduceAdd, Nat.reduceBEq, BEq.rfl, beq_self_eq_true, Bool.or_false, Bool.or_true, Bool.true_or, Bool.false_or, decide_true, decide_false, Bool.not_false, Bool.not_true, Nat.zero_lt_succ, Nat.lt_add_left_iff_pos, Nat.succ_ne_self, ne_eq, not_false_eq_true, eq_self, if_true, if_false, ite_true, ite_false, bd_I, bd_V, bd_A, bd_L, re_I, re_V, Bool.true_and, Bool.and_true, reduceIte, reduceCtorEq, ↓reduceIte, Nat.reduceEqDiff, c0, ih]
      rfl
  | [], _ :: _, _, _, _, hR, _, _ => hR.elim
  | _ :: _, [], _, _, _, hR, _, _ => hR.elim
theorem T_available {b : Nat} {as : List Nat} {h : Hs_t} {w : Wd_t} (hT : RTw b as h w) (hv : wv_O w) : TR b h (f_T_available b h) (.inl (some (.int (ni (rv w.1 w.2.1))))) w := by
  obtain ⟨ls, s, lv, lvm, cl, bag, lt⟩ := w
  have hT2 : RT b as h ls s lv lvm cl bag lt := hT
  obtain ⟨a1, a2, a3, a4, a5, a6, a7, a8, a9, a10, a11, a12⟩ := hT2
  have v2 : ls.length ≤ 5 := hv.2.1
  have e := T_ready b h s as ls dp_N hv.1 v2 a8 a9 (by simp only [dp_N]; omega)
  rw [f_T_available]
  simp only [fd_I, fd_V, fd_A, pt_V, pt_Z, ar_I, ar_Z, ar_R, as_I, as_Z, cp_I, ln_A, ck_T, tg_O, hp_2, List.contains_cons, List.contains_nil, List.getElem?_cons_zero, List.getElem?_cons_succ, List.set_cons_succ, List.set_cons_zero, List.length_cons, List.length_nil, Option.bind_some, Option.bind_none, Nat.reduceLT, Nat.reduceAdd, Nat.reduceBEq, BEq.rfl, beq_self_eq_true, Bool.or_false, Bool.or_true, Bool.true_or, Bool.false_or, decide_true, decide_false, Bool.not_false, Bool.not_true, Nat.zero_lt_succ, Nat.lt_add_left_iff_pos, Nat.succ_ne_self, ne_eq, not_false_eq_true, eq_self, if_true, if_false, ite_true, ite_false, bd_I, bd_V, bd_A, bd_L, re_I, re_V, Bool.true_and, Bool.and_true, reduceIte, reduceCtorEq, ↓reduceIte, Nat.reduceEqDiff, a1, e]
  exact ⟨h, as, rfl, hT, FK.refl _ _⟩
theorem M_av (m : Nat) (h : Hs_t) (g : Mg_t) (s : Sr_t) (q : Nat) (hq : q ≤ 5) (h6 : g.1 6 = ni q) : ∀ (ls : List Ly_t), iv_O ls s → RMl g ls → ls.length ≤ q → ∀ F : Nat, f_M_available_b12 (F + ls.length + 1) m (ni (pl_N s)) 0 (MH m g h) = f_M_available_b12 (F + 1) m (ni (rv ls s)) (ni ls.length) (MH m g h)
  | [], _, _, _, F => rfl
  | L :: ls, hv, hR, hL, F => by
    have hL' : ls.length + 1 ≤ q := hL
    have hle := rv_le ls s hv.2.2
    have h1 : in_R (ni ls.length) 5 = true := ni_in_t (by omega) (by omega)
    have h2 : (ni ls.length).toNatClampNeg = ls.length := ni_nat (by omega)
    rw [show F + (L :: ls).length + 1 = (F + 1) + ls.length + 1 by simp only [List.length_cons]; omega, M_av m h g s q hq h6 ls hv.2.2 hR.2 (by omega) (F + 1), f_M_available_b12]
    simp only [mI_0, mP_0, mI_4, mP_4, mI_5, mP_5, mI_6, mP_6, mI_20, mP_20, mI_21, mP_21, mI_22, mP_22, mI_23, mP_23, mI_25, mP_25, mI_27, mP_27, mR_1, mG_1, mS_1, mR_2, mG_2, mS_2, mR_3, mG_3, mS_3, mR_7, mG_7, mS_7, mR_8, mG_8, mS_8, mR_9, mG_9, mS_9, mR_10, mG_10, mS_10, mR_11, mG_11, mS_11, mR_12, mG_12, mS_12, mR_13, mG_13, mS_13, mR_14, mG_14, mS_14, mR_15, mG_15, mS_15, mR_16, mG_16, mS_16, mR_17, mG_17, mS_17, mR_18, mG_18, mS_18, mR_19, mG_19, mS_19, mR_24, mG_24, mS_24, mR_26, mG_26, mS_26, mK_8, gS_1, gS_2, gA_1, gA_2, Option.bind_some, Option.bind_none, h6]
    rw [if_neg (niNL (by omega) (by omega) (by omega))]
    simp only [h1, h2, if_true, Option.bind_some]
    match L, hv, hR with
    | .inl (rm, kp, tg, mq), hv, hR =>
      have r1 := hR.1
      simp only [r1.1, eq_self, if_true, if_false, ite_true, ite_false, bd_I, bd_V, bd_A, bd_L, re_I, re_V, Bool.true_and, Bool.and_true, reduceIte, reduceCtorEq, ↓reduceIte, Nat.reduceEqDiff, M_toGive m g h ls.length (by omega), r1.2.2.1, r1.2.2.2.1, ni_sub2, f_M_available_b38, f_M_available_b57, f_M_available_b84, mI_0, mP_0, mI_4, mP_4, mI_5, mP_5, mI_6, mP_6, mI_20, mP_20, mI_21, mP_21, mI_22, mP_22, mI_23, mP_23, mI_25, mP_25, mI_27, mP_27, mR_1, mG_1, mS_1, mR_2, mG_2, mS_2, mR_3, mG_3, mS_3, mR_7, mG_7, mS_7, mR_8, mG_8, mS_8, mR_9, mG_9, mS_9, mR_10, mG_10, mS_10, mR_11, mG_11, mS_11, mR_12, mG_12, mS_12, mR_13, mG_13, mS_13, mR_14, mG_14, mS_14, mR_15, mG_15, mS_15, mR_16, mG_16, mS_16, mR_17, mG_17, mS_17, mR_18, mG_18, mS_18, mR_19, mG_19, mS_19, mR_24, mG_24, mS_24, mR_26, mG_26, mS_26, mK_8, gS_1, gS_2, gA_1, gA_2, Option.bind_some, Option.bind_none, h1, h2, show ((1 : Int32) = 2) = False by decide, show ((1 : Int32) = 3) = False by decide, ni_add, ni_p1]
      rw [Nat.add_comm (rv ls s)]; rfl
    | .inr (.inl (rm, st)), hv, hR =>
      have r1 := hR.1
      simp only [r1.1, eq_self, if_true, if_false, ite_true, ite_false, bd_I, bd_V, bd_A, bd_L, re_I, re_V, Bool.true_and, Bool.and_true, reduceIte, reduceCtorEq, ↓reduceIte, Nat.reduceEqDiff, r1.2.2.1, f_M_available_b38, f_M_available_b57, f_M_available_b84, mI_0, mP_0, mI_4, mP_4, mI_5, mP_5, mI_6, mP_6, mI_20, mP_20, mI_21, mP_21, mI_22, mP_22, mI_23, mP_23, mI_25, mP_25, mI_27, mP_27, mR_1, mG_1, mS_1, mR_2, mG_2, mS_2, mR_3, mG_3, mS_3, mR_7, mG_7, mS_7, mR_8, mG_8, mS_8, mR_9, mG_9, mS_9, mR_10, mG_10, mS_10, mR_11, mG_11, mS_11, mR_12, mG_12, mS_12, mR_13, mG_13, mS_13, mR_14, mG_14, mS_14, mR_15, mG_15, mS_15, mR_16, mG_16, mS_16, mR_17, mG_17, mS_17, mR_18, mG_18, mS_18, mR_19, mG_19, mS_19, mR_24, mG_24, mS_24, mR_26, mG_26, mS_26, mK_8, gS_1, gS_2, gA_1, gA_2, Option.bind_some, Option.bind_none, h1, h2, show ((2 : Int32) = 1) = False by decide, show ((2 : Int32) = 3) = False by decide, ni_add, ni_p1]
      rw [Nat.add_comm (rv ls s)]; rfl
    | .inr (.inr (.inl (lf, lm))), hv, hR =>
      have r1 := hR.1
      have := hv.1.1
      simp only [r1.1, eq_self, if_true, if_false, ite_true, ite_false, bd_I, bd_V, bd_A, bd_L, re_I, re_V, Bool.true_and, Bool.and_true, reduceIte, reduceCtorEq, ↓reduceIte, Nat.reduceEqDiff, r1.2.1, f_M_available_b38, f_M_available_b57, f_M_available_b84, mI_0, mP_0, mI_4, mP_4, mI_5, mP_5, mI_6, mP_6, mI_20, mP_20, mI_21, mP_21, mI_22, mP_22, mI_23, mP_23, mI_25, mP_25, mI_27, mP_27, mR_1, mG_1, mS_1, mR_2, mG_2, mS_2, mR_3, mG_3, mS_3, mR_7, mG_7, mS_7, mR_8, mG_8, mS_8, mR_9, mG_9, mS_9, mR_10, mG_10, mS_10, mR_11, mG_11, mS_11, mR_12, mG_12, mS_12, mR_13, mG_13, mS_13, mR_14, mG_14, mS_14, mR_15, mG_15, mS_15, mR_16, mG_16, mS_16, mR_17, mG_17, mS_17, mR_18, mG_18, mS_18, mR_19, mG_19, mS_19, mR_24, mG_24, mS_24, mR_26, mG_26, mS_26, mK_8, gS_1, gS_2, gA_1, gA_2, Option.bind_some, Option.bind_none, h1, h2, show ((3 : Int32) = 1) = False by decide, show ((3 : Int32) = 2) = False by decide, ni_p1]
      by_cases hb : rv ls s ≤ lf
      · rw [if_pos (niL (by omega) (by omega) hb)]
        simp only [rv, show min lf (rv ls s) = rv ls s by omega]; rfl
      · rw [if_neg (niNL (by omega) (by omega) (by omega))]
        simp only [rv, show min lf (rv ls s) = lf by omega]; rfl
    | .inr (.inr (.inr (.inl (key, cd, cm)))), hv, hR =>
      have r1 := hR.1
      simp only [r1.1, eq_self, if_true, if_false, ite_true, ite_false, bd_I, bd_V, bd_A, bd_L, re_I, re_V, Bool.true_and, Bool.and_true, reduceIte, reduceCtorEq, ↓reduceIte, Nat.reduceEqDiff, f_M_available_b38, f_M_available_b57, f_M_available_b84, mI_0, mP_0, mI_4, mP_4, mI_5, mP_5, mI_6, mP_6, mI_20, mP_20, mI_21, mP_21, mI_22, mP_22, mI_23, mP_23, mI_25, mP_25, mI_27, mP_27, mR_1, mG_1, mS_1, mR_2, mG_2, mS_2, mR_3, mG_3, mS_3, mR_7, mG_7, mS_7, mR_8, mG_8, mS_8, mR_9, mG_9, mS_9, mR_10, mG_10, mS_10, mR_11, mG_11, mS_11, mR_12, mG_12, mS_12, mR_13, mG_13, mS_13, mR_14, mG_14, mS_14, mR_15, mG_15, mS_15, mR_16, mG_16, mS_16, mR_17, mG_17, mS_17, mR_18, mG_18, mS_18, mR_19, mG_19, mS_19, mR_24, mG_24, mS_24, mR_26, mG_26, mS_26, mK_8, gS_1, gS_2, gA_1, gA_2, Option.bind_some, Option.bind_none, h1, h2, show ((4 : Int32) = 1) = False by decide, show ((4 : Int32) = 2) = False by decide, show ((4 : Int32) = 3) = False by decide, ni_p1]
      rfl
    | .inr (.inr (.inr (.inr (a, em, cr, crm)))), hv, hR =>
      have r1 := hR.1
      simp only [r1.1, eq_self, if_true, if_false, ite_true, ite_false, bd_I, bd_V, bd_A, bd_L, re_I, re_V, Bool.true_and, Bool.and_true, reduceIte, reduceCtorEq, ↓reduceIte, Nat.reduceEqDiff, f_M_available_b38, f_M_available_b57, f_M_available_b84, mI_0, mP_0, mI_4, mP_4, mI_5, mP_5, mI_6, mP_6, mI_20, mP_20, mI_21, mP_21, mI_22, mP_22, mI_23, mP_23, mI_25, mP_25, mI_27, mP_27, mR_1, mG_1, mS_1, mR_2, mG_2, mS_2, mR_3, mG_3, mS_3, mR_7, mG_7, mS_7, mR_8, mG_8, mS_8, mR_9, mG_9, mS_9, mR_10, mG_10, mS_10, mR_11, mG_11, mS_11, mR_12, mG_12, mS_12, mR_13, mG_13, mS_13, mR_14, mG_14, mS_14, mR_15, mG_15, mS_15, mR_16, mG_16, mS_16, mR_17, mG_17, mS_17, mR_18, mG_18, mS_18, mR_19, mG_19, mS_19, mR_24, mG_24, mS_24, mR_26, mG_26, mS_26, mK_8, gS_1, gS_2, gA_1, gA_2, Option.bind_some, Option.bind_none, h1, h2, show ((5 : Int32) = 1) = False by decide, show ((5 : Int32) = 2) = False by decide, show ((5 : Int32) = 3) = False by decide, ni_p1]
      rfl
theorem M_available {m : Nat} {h : Hs_t} {g : Mg_t} {w : Wd_t} (hR : RWw g w) (hv : wv_O w) : MR m h (f_M_available m (MH m g h)) (some (.int (ni (rv w.1 w.2.1)))) 0 w := by
  obtain ⟨ls, s, lv, lvm, cl, bag, lt⟩ := w
  have hR0 : RW (gS g 0 0) ls s lv lvm cl bag lt := RW.cd (show RW g ls s lv lvm cl bag lt from hR) 0
  have v2 : ls.length ≤ 5 := hv.2.1
  have e := M_av m h (gS g 0 0) s ls.length v2 hR0.2.2.1 ls hv.1 hR0.1 (Nat.le_refl _) (fu_N - ls.length - 1)
  rw [show fu_N - ls.length - 1 + ls.length + 1 = fu_N by simp only [fu_N]; omega] at e
  rw [f_M_available]
  simp only [mI_0, mP_0, mI_4, mP_4, mI_5, mP_5, mI_6, mP_6, mI_20, mP_20, mI_21, mP_21, mI_22, mP_22, mI_23, mP_23, mI_25, mP_25, mI_27, mP_27, mR_1, mG_1, mS_1, mR_2, mG_2, mS_2, mR_3, mG_3, mS_3, mR_7, mG_7, mS_7, mR_8, mG_8, mS_8, mR_9, mG_9, mS_9, mR_10, mG_10, mS_10, mR_11, mG_11, mS_11, mR_12, mG_12, mS_12, mR_13, mG_13, mS_13, mR_14, mG_14, mS_14, mR_15, mG_15, mS_15, mR_16, mG_16, mS_16, mR_17, mG_17, mS_17, mR_18, mG_18, mS_18, mR_19, mG_19, mS_19, mR_24, mG_24, mS_24, mR_26, mG_26, mS_26, mK_8, gS_1, gS_2, gA_1, gA_2, Option.bind_some, Option.bind_none, eq_self, if_true, if_false, ite_true, ite_false, bd_I, bd_V, bd_A, bd_L, re_I, re_V, Bool.true_and, Bool.and_true, reduceIte, reduceCtorEq, ↓reduceIte, Nat.reduceEqDiff, M_portionLeft m h (gS g 0 0) s hR0.2.1 (iv_sr hv.1)]
  rw [e, f_M_available_b12]
  have e6 : g.1 6 = ni ls.length := hR0.2.2.1
  simp only [mI_0, mP_0, mI_4, mP_4, mI_5, mP_5, mI_6, mP_6, mI_20, mP_20, mI_21, mP_21, mI_22, mP_22, mI_23, mP_23, mI_25, mP_25, mI_27, mP_27, mR_1, mG_1, mS_1, mR_2, mG_2, mS_2, mR_3, mG_3, mS_3, mR_7, mG_7, mS_7, mR_8, mG_8, mS_8, mR_9, mG_9, mS_9, mR_10, mG_10, mS_10, mR_11, mG_11, mS_11, mR_12, mG_12, mS_12, mR_13, mG_13, mS_13, mR_14, mG_14, mS_14, mR_15, mG_15, mS_15, mR_16, mG_16, mS_16, mR_17, mG_17, mS_17, mR_18, mG_18, mS_18, mR_19, mG_19, mS_19, mR_24, mG_24, mS_24, mR_26, mG_26, mS_26, mK_8, gS_1, gS_2, gA_1, gA_2, Option.bind_some, Option.bind_none, eq_self, if_true, if_false, ite_true, ite_false, bd_I, bd_V, bd_A, bd_L, re_I, re_V, Bool.true_and, Bool.and_true, reduceIte, reduceCtorEq, ↓reduceIte, Nat.reduceEqDiff, e6]
  rw [if_pos (niL (by omega) (by omega) (Nat.le_refl _))]
  exact ⟨_, rfl, hR0, rfl⟩
def sv_I : Ly_t → Int32
  | .inl (_, _, tg, _) => ni tg.length
  | .inr (.inl (_, st)) => ni st.length
  | .inr (.inr (.inl (lf, _))) => ni lf
  | .inr (.inr (.inr (.inl (_, cd, _)))) => cd
  | .inr (.inr (.inr (.inr (e, _, _, _)))) => e
def op_about (w : Wd_t) (x : Int32) : Int32 := if x = -1 then ni w.2.1.2.2.2.2 else if x < 0 then -1 else match w.1.reverse[x.toNatClampNeg]? with
  | none => -1
  | some L => sv_I L
theorem T_state {bl a : Nat} {h : Hs_t} {L : Ly_t} (hR : RC bl a h L) : v_state a h = re_I (sv_I L) h := by
  match L, hR with
  | .inl (rm, kp, tg, mq), hR =>
    obtain ⟨fi, f, mz, ml, c0, c1, c2⟩ := hR
    simp only [v_state, tg_O, c0, if_true, if_false, Nat.reduceEqDiff, f_Buf_state, fd_I, fd_V, fd_A, pt_V, pt_Z, ar_I, ar_Z, ar_R, as_I, as_Z, cp_I, ln_A, ck_T, tg_O, hp_2, List.contains_cons, List.contains_nil, List.getElem?_cons_zero, List.getElem?_cons_succ, List.set_cons_succ, List.set_cons_zero, List.length_cons, List.length_nil, Option.bind_some, Option.bind_none, Nat.reduceLT, Nat.reduceAdd, Nat.reduceBEq, BEq.rfl, beq_self_eq_true, Bool.or_false, Bool.or_true, Bool.true_or, Bool.false_or, decide_true, decide_false, Bool.not_false, Bool.not_true, Nat.zero_lt_succ, Nat.lt_add_left_iff_pos, Nat.succ_ne_self, ne_eq, not_false_eq_true, eq_self, if_true, if_false, ite_true, ite_false, bd_I, bd_V, bd_A, bd_L, re_I, re_V, Bool.true_and, Bool.and_true, reduceIte, reduceCtorEq, ↓reduceIte, Nat.reduceEqDiff, ni_sub2]; rfl
  | .inr (.inl (rm, st)), hR =>
    obtain ⟨f, c0, c1⟩ := hR
    simp only [v_state, tg_O, c0, if_true, if_false, Nat.reduceEqDiff, f_Psh_state, fd_I, fd_V, fd_A, pt_V, pt_Z, ar_I, ar_Z, ar_R, as_I, as_Z, cp_I, ln_A, ck_T, tg_O, hp_2, List.contains_cons, List.contains_nil, List.getElem?_cons_zero, List.getElem?_cons_succ, List.set_cons_succ, List.set_cons_zero, List.length_cons, List.length_nil, Option.bind_some, Option.bind_none, Nat.reduceLT, Nat.reduceAdd, Nat.reduceBEq, BEq.rfl, beq_self_eq_true, Bool.or_false, Bool.or_true, Bool.true_or, Bool.false_or, decide_true, decide_false, Bool.not_false, Bool.not_true, Nat.zero_lt_succ, Nat.lt_add_left_iff_pos, Nat.succ_ne_self, ne_eq, not_false_eq_true, eq_self, if_true, if_false, ite_true, ite_false, bd_I, bd_V, bd_A, bd_L, re_I, re_V, Bool.true_and, Bool.and_true, reduceIte, reduceCtorEq, ↓reduceIte, Nat.reduceEqDiff]; rfl
  | .inr (.inr (.inl (lf, lm))), hR =>
    have c0 : h.2 a = _ := hR
    simp only [v_state, tg_O, c0, if_true, if_false, Nat.reduceEqDiff, f_Lim_state, fd_I, fd_V, fd_A, pt_V, pt_Z, ar_I, ar_Z, ar_R, as_I, as_Z, cp_I, ln_A, ck_T, tg_O, hp_2, List.contains_cons, List.contains_nil, List.getElem?_cons_zero, List.getElem?_cons_succ, List.set_cons_succ, List.set_cons_zero, List.length_cons, List.length_nil, Option.bind_some, Option.bind_none, Nat.reduceLT, Nat.reduceAdd, Nat.reduceBEq, BEq.rfl, beq_self_eq_true, Bool.or_false, Bool.or_true, Bool.true_or, Bool.false_or, decide_true, decide_false, Bool.not_false, Bool.not_true, Nat.zero_lt_succ, Nat.lt_add_left_iff_pos, Nat.succ_ne_self, ne_eq, not_false_eq_true, eq_self, if_true, if_false, ite_true, ite_false, bd_I, bd_V, bd_A, bd_L, re_I, re_V, Bool.true_and, Bool.and_true, reduceIte, reduceCtorEq, ↓reduceIte, Nat.reduceEqDiff]; rfl
  | .inr (.inr (.inr (.inl (key, cd, cm)))), hR =>
    have c0 : h.2 a = _ := hR
    simp only [v_state, tg_O, c0, if_true, if_false, Nat.reduceEqDiff, f_Cod_state, fd_I, fd_V, fd_A, pt_V, pt_Z, ar_I, ar_Z, ar_R, as_I, as_Z, cp_I, ln_A, ck_T, tg_O, hp_2, List.contains_cons, List.contains_nil, List.getElem?_cons_zero, List.getElem?_cons_succ, List.set_cons_succ, List.set_cons_zero, List.length_cons, List.length_nil, Option.bind_some, Option.bind_none, Nat.reduceLT, Nat.reduceAdd, Nat.reduceBEq, BEq.rfl, beq_self_eq_true, Bool.or_false, Bool.or_true, Bool.true_or, Bool.false_or, decide_true, decide_false, Bool.not_false, Bool.not_true, Nat.zero_lt_succ, Nat.lt_add_left_iff_pos, Nat.succ_ne_self, ne_eq, not_false_eq_true, eq_self, if_true, if_false, ite_true, ite_false, bd_I, bd_V, bd_A, bd_L, re_I, re_V, Bool.true_and, Bool.and_true, reduceIte, reduceCtorEq, ↓reduceIte, Nat.reduceEqDiff]; rfl
  | .inr (.inr (.inr (.inr (e, em, cr, crm)))), hR =>
    have c0 : h.2 a = _ := hR
    simp only [v_state, tg_O, c0, if_true, if_false, Nat.reduceEqDiff, f_Lin_state, fd_I, fd_V, fd_A, pt_V, pt_Z, ar_I, ar_Z, ar_R, as_I, as_Z, cp_I, ln_A, ck_T, tg_O, hp_2, List.contains_cons, List.contains_nil, List.getElem?_cons_zero, List.getElem?_cons_succ, List.set_cons_succ, List.set_cons_zero, List.length_cons, List.length_nil, Option.bind_some, Option.bind_none, Nat.reduceLT, Nat.reduceAdd, Nat.reduceBEq, BEq.rfl, beq_self_eq_true, Bool.or_false, Bool.or_true, Bool.true_or, Bool.false_or, decide_true, decide_false, Bool.not_false, Bool.not_true, Nat.zero_lt_succ, Nat.lt_add_left_iff_pos, Nat.succ_ne_self, ne_eq, not_false_eq_true, eq_self, if_true, if_false, ite_true, ite_false, bd_I, bd_V, bd_A, bd_L, re_I, re_V, Bool.true_and, Bool.and_true, reduceIte, reduceCtorEq, ↓reduceIte, Nat.reduceEqDiff]; rfl
theorem RLc_at {b : Nat} {h : Hs_t} : ∀ {as : List Nat} {ls : List Ly_t}, RLc b h as ls → ∀ i : Nat, (as.reverse[i]? = none ∧ ls.reverse[i]? = none) ∨ ∃ e L bl, as.reverse[i]? = some e ∧ ls.reverse[i]? = some L ∧ RC bl (e / 2) h L
  | [], [], _, i => Or.inl ⟨by simp, by simp⟩
  | e :: as, L :: ls, hR, i => by
    have hlen : as.length = ls.length := by
      clear i
      have : ∀ {as : List Nat} {ls : List Ly_t}, RLc b h as ls → as.length = ls.length := by
        intro as
        induction as with
        | nil => intro ls h; cases ls with | nil => rfl | cons _ _ => exact h.elim
        | cons a as ih => intro ls h; cases ls with | nil => exact h.elim | cons L ls => simp only [List.length_cons]; rw [ih h.2]
      exact this hR.2
    simp only [List.reverse_cons]
    by_cases hi : i < as.length
    · rw [List.getElem?_append_left (by rw [List.length_reverse]; exact hi), List.getElem?_append_left (by rw [List.length_reverse]; omega)]
      exact RLc_at hR.2 i
    · by_cases hi2 : i = as.length
      · right
        refine ⟨e, L, hd_N2 b as, ?_, ?_, hR.1.1⟩
        · rw [List.getElem?_append_right (by rw [List.length_reverse]; omega), List.length_reverse, hi2, Nat.sub_self]; rfl
        · rw [List.getElem?_append_right (by rw [List.length_reverse]; omega), List.length_reverse, hi2, hlen, Nat.sub_self]; rfl
      · left
        constructor
        · rw [List.getElem?_eq_none]; simp; omega
        · rw [List.getElem?_eq_none]; simp; omega
  | [], _ :: _, hR, _ => hR.elim
  | _ :: _, [], hR, _ => hR.elim
theorem T_about {b : Nat} {as : List Nat} {h : Hs_t} {w : Wd_t} (hT : RTw b as h w) (hv : wv_O w) (x : Int32) : TR b h (f_T_about b x h) (.inl (some (.int (op_about w x)))) w := by
  obtain ⟨ls, s, lv, lvm, cl, bag, lt⟩ := w
  have hT2 : RT b as h ls s lv lvm cl bag lt := hT
  obtain ⟨a1, ⟨fR, a2, a2'⟩, a3, a4, a5, a6, a7, a8, a9, a10, a11, a12⟩ := hT2
  have v2 : ls.length ≤ 5 := hv.2.1
  rw [f_T_about]
  simp only [op_about]
  by_cases hx : x = -1
  · have s1 := a9.1
    simp only [hx, if_true, fd_I, fd_V, fd_A, pt_V, pt_Z, ar_I, ar_Z, ar_R, as_I, as_Z, cp_I, ln_A, ck_T, tg_O, hp_2, List.contains_cons, List.contains_nil, List.getElem?_cons_zero, List.getElem?_cons_succ, List.set_cons_succ, List.set_cons_zero, List.length_cons, List.length_nil, Option.bind_some, Option.bind_none, Nat.reduceLT, Nat.reduceAdd, Nat.reduceBEq, BEq.rfl, beq_self_eq_true, Bool.or_false, Bool.or_true, Bool.true_or, Bool.false_or, decide_true, decide_false, Bool.not_false, Bool.not_true, Nat.zero_lt_succ, Nat.lt_add_left_iff_pos, Nat.succ_ne_self, ne_eq, not_false_eq_true, eq_self, if_true, if_false, ite_true, ite_false, bd_I, bd_V, bd_A, bd_L, re_I, re_V, Bool.true_and, Bool.and_true, reduceIte, reduceCtorEq, ↓reduceIte, Nat.reduceEqDiff, a1, s1, f_Src_state]
    exact ⟨h, as, rfl, hT, FK.refl _ _⟩
  · by_cases h0 : x < 0
    · simp only [hx, h0, if_true, if_false, f_T_about_b26]
      exact ⟨h, as, rfl, hT, FK.refl _ _⟩
    · obtain ⟨n, rfl, hn⟩ := ni_of h0
      simp only [hx, h0, if_false, fd_I, fd_V, fd_A, pt_V, pt_Z, ar_I, ar_Z, ar_R, as_I, as_Z, cp_I, ln_A, ck_T, tg_O, hp_2, List.contains_cons, List.contains_nil, List.getElem?_cons_zero, List.getElem?_cons_succ, List.set_cons_succ, List.set_cons_zero, List.length_cons, List.length_nil, Option.bind_some, Option.bind_none, Nat.reduceLT, Nat.reduceAdd, Nat.reduceBEq, BEq.rfl, beq_self_eq_true, Bool.or_false, Bool.or_true, Bool.true_or, Bool.false_or, decide_true, decide_false, Bool.not_false, Bool.not_true, Nat.zero_lt_succ, Nat.lt_add_left_iff_pos, Nat.succ_ne_self, ne_eq, not_false_eq_true, eq_self, if_true, if_false, ite_true, ite_false, bd_I, bd_V, bd_A, bd_L, re_I, re_V, Bool.true_and, Bool.and_true, reduceIte, reduceCtorEq, ↓reduceIte, Nat.reduceEqDiff, a1, a2, f_T_about_b26, ni_nat hn]
      by_cases h5 : n < 5
      · rw [if_pos (show ni n < Int32.ofNat 5 from niT (b := 5) hn (by omega) h5)]
        simp only [ni_in_t hn h5, if_true, Option.bind_some]
        rw [a2' n h5]
        rcases RLc_at a8 n with ⟨q1, q2⟩ | ⟨e, L, bl, q1, q2, q3⟩
        · rw [q1, q2]
          exact ⟨h, as, rfl, hT, FK.refl _ _⟩
        · rw [q1, q2]
          simp only [Option.map_some, T_state q3, re_I, f_T_about_b47]
          exact ⟨h, as, rfl, hT, FK.refl _ _⟩
      · rw [if_neg (show ¬ ni n < Int32.ofNat 5 from niNT (b := 5) hn (by omega) (by omega)), List.getElem?_eq_none (by rw [List.length_reverse]; omega)]
        exact ⟨h, as, rfl, hT, FK.refl _ _⟩
theorem RMl_at {g : Mg_t} : ∀ {ls : List Ly_t}, RMl g ls → ∀ i : Nat, i < ls.length → ∃ L, ls.reverse[i]? = some L ∧ RLm g i L
  | [], _, i, hi => by simp at hi
  | L :: ls, hR, i, hi => by
    simp only [List.reverse_cons]
    by_cases h1 : i < ls.length
    · rw [List.getElem?_append_left (by rw [List.length_reverse]; exact h1)]
      exact RMl_at hR.2 i h1
    · have h2 : i = ls.length := by simp only [List.length_cons] at hi; omega
      subst h2
      exact ⟨L, by rw [List.getElem?_append_right (by rw [List.length_reverse]; omega), List.length_reverse, Nat.sub_self]; rfl, hR.1⟩
theorem M_about {m : Nat} {h : Hs_t} {g : Mg_t} {w : Wd_t} (hR : RWw g w) (hv : wv_O w) (x : Int32) : MR m h (f_M_about m x (MH m g h)) (some (.int (op_about w x))) 0 w := by
  obtain ⟨ls, s, lv, lvm, cl, bag, lt⟩ := w
  have hR : RW g ls s lv lvm cl bag lt := hR
  have hR0 := hR.cd 0
  have v2 : ls.length ≤ 5 := hv.2.1
  have e5 : g.1 5 = ni s.2.2.2.2 := hR.2.1.2.2.2.2
  have e6 : g.1 6 = ni ls.length := hR.2.2.1
  rw [f_M_about]
  simp only [mI_0, mP_0, mI_4, mP_4, mI_5, mP_5, mI_6, mP_6, mI_20, mP_20, mI_21, mP_21, mI_22, mP_22, mI_23, mP_23, mI_25, mP_25, mI_27, mP_27, mR_1, mG_1, mS_1, mR_2, mG_2, mS_2, mR_3, mG_3, mS_3, mR_7, mG_7, mS_7, mR_8, mG_8, mS_8, mR_9, mG_9, mS_9, mR_10, mG_10, mS_10, mR_11, mG_11, mS_11, mR_12, mG_12, mS_12, mR_13, mG_13, mS_13, mR_14, mG_14, mS_14, mR_15, mG_15, mS_15, mR_16, mG_16, mS_16, mR_17, mG_17, mS_17, mR_18, mG_18, mS_18, mR_19, mG_19, mS_19, mR_24, mG_24, mS_24, mR_26, mG_26, mS_26, mK_8, gS_1, gS_2, gA_1, gA_2, Option.bind_some, Option.bind_none, eq_self, if_true, if_false, ite_true, ite_false, bd_I, bd_V, bd_A, bd_L, re_I, re_V, Bool.true_and, Bool.and_true, reduceIte, reduceCtorEq, ↓reduceIte, Nat.reduceEqDiff, op_about, e5, e6, f_M_about_b27, f_M_about_b72]
  by_cases hx : x = -1
  · simp only [hx, if_true]
    exact ⟨_, rfl, hR0, rfl⟩
  · by_cases h0 : x < 0
    · simp only [hx, h0, if_true, if_false]
      exact ⟨_, rfl, hR0, rfl⟩
    · obtain ⟨n, rfl, hn⟩ := ni_of h0
      simp only [hx, h0, if_false, ni_nat hn]
      by_cases h5 : n < ls.length
      · rw [if_pos (niT hn (by omega) h5)]
        obtain ⟨L, q1, q2⟩ := RMl_at hR0.1 n h5
        rw [q1]
        have tg := M_toGive m (gS g 0 0) h n (by omega)
        have q2 : RLm g n L := q2.congr fun k _ _ => rfl
        simp only [ni_in_t hn (show n < 5 by omega), if_true, Option.bind_some, tg, gS_2]
        match L, q2 with
        | .inl (rm, kp, tg, mq), q2 => simp only [q2.1, if_true, eq_self, if_true, if_false, ite_true, ite_false, bd_I, bd_V, bd_A, bd_L, re_I, re_V, Bool.true_and, Bool.and_true, reduceIte, reduceCtorEq, ↓reduceIte, Nat.reduceEqDiff, q2.2.2.1, q2.2.2.2.1, ni_sub2]; exact ⟨_, rfl, hR0, rfl⟩
        | .inr (.inl (rm, st)), q2 => simp only [q2.1, show ((2 : Int32) = 1) = False by decide, if_false, if_true, q2.2.2.1]; exact ⟨_, rfl, hR0, rfl⟩
        | .inr (.inr (.inl (lf, lm))), q2 => simp only [q2.1, show ((3 : Int32) = 1) = False by decide, show ((3 : Int32) = 2) = False by decide, if_false, q2.2.1]; exact ⟨_, rfl, hR0, rfl⟩
        | .inr (.inr (.inr (.inl (key, cd, cm)))), q2 => simp only [q2.1, show ((4 : Int32) = 1) = False by decide, show ((4 : Int32) = 2) = False by decide, if_false, q2.2.2.1]; exact ⟨_, rfl, hR0, rfl⟩
        | .inr (.inr (.inr (.inr (e, em, cr, crm)))), q2 => simp only [q2.1, show ((5 : Int32) = 1) = False by decide, show ((5 : Int32) = 2) = False by decide, if_false, q2.2.1]; exact ⟨_, rfl, hR0, rfl⟩
      · rw [if_neg (niNT hn (by omega) (by omega)), List.getElem?_eq_none (by rw [List.length_reverse]; omega)]
        exact ⟨_, rfl, hR0, rfl⟩
