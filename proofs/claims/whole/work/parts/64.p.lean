theorem T_rwc {b : Nat} {as : List Nat} {h : Hs_t} {ls : List Ly_t} {s : Sr_t} {lv lvm cl : Int32} {bag lt : List Int32} (hT : RT b as h ls s lv lvm cl bag lt) (k : Hs_t → Rs_t) : (cl = 0 → bd_V (f_T_refuseWhenClosed b h) k = k h) ∧ (¬ cl = 0 → ThR b h (bd_V (f_T_refuseWhenClosed b h) k) 10 (fun as' h' => RT b as' h' ls s lv lvm cl bag lt)) := by
  have a1 := hT.1
  rw [f_T_refuseWhenClosed]
  simp only [fd_I, fd_V, fd_A, pt_V, pt_Z, ar_I, ar_Z, ar_R, as_I, as_Z, cp_I, ln_A, ck_T, tg_O, hp_2, List.contains_cons, List.contains_nil, List.getElem?_cons_zero, List.getElem?_cons_succ, List.set_cons_succ, List.set_cons_zero, List.length_cons, List.length_nil, Option.bind_some, Option.bind_none, Nat.reduceLT, Nat.reduceAdd, Nat.reduceBEq, BEq.rfl, beq_self_eq_true, Bool.or_false, Bool.or_true, Bool.true_or, Bool.false_or, decide_true, decide_false, Bool.not_false, Bool.not_true, Nat.zero_lt_succ, Nat.lt_add_left_iff_pos, Nat.succ_ne_self, ne_eq, not_false_eq_true, a1, eq_self, if_true, if_false, ite_true, ite_false, bd_I, bd_V, bd_A, bd_L, re_I, re_V, Bool.true_and, Bool.and_true, reduceIte, reduceCtorEq, ↓reduceIte, Nat.reduceEqDiff]
  constructor
  · intro hc; simp only [hc, if_true]
  · intro hc
    simp only [hc, if_false]
    obtain ⟨x, h', as', q1, q2, q3, q4⟩ := T_throw (h0 := h) hT (FK.refl _ _) 10
    exact ⟨x, h', as', by rw [q1], q2, q3, q4⟩
theorem tag_hd {b : Nat} {as : List Nat} {h : Hs_t} {ls : List Ly_t} {s : Sr_t} (hR : RLc b h as ls) (hS : RSc b h s) : tg_O h (hd_N2 b as) = some (match ls with
    | [] => 2
    | .inl _ :: _ => 3
    | .inr (.inl _) :: _ => 4
    | .inr (.inr (.inl _)) :: _ => 5
    | .inr (.inr (.inr (.inl _))) :: _ => 6
    | .inr (.inr (.inr (.inr _))) :: _ => 7) := by
  match as, ls, hR with
  | [], [], _ => simp only [hd_N2, tg_O, hS.1]
  | e :: as, .inl (rm, kp, tg, mq) :: ls, hR => obtain ⟨fi, f, mz, ml, c0, c1⟩ := hR.1.1; simp only [hd_N2, tg_O, c0]
  | e :: as, .inr (.inl (rm, st)) :: ls, hR => obtain ⟨f, c0, c1⟩ := hR.1.1; simp only [hd_N2, tg_O, c0]
  | e :: as, .inr (.inr (.inl (lf, lm))) :: ls, hR => have c0 : h.2 (e / 2) = _ := hR.1.1; simp only [hd_N2, tg_O, c0]
  | e :: as, .inr (.inr (.inr (.inl (key, cd, cm)))) :: ls, hR => have c0 : h.2 (e / 2) = _ := hR.1.1; simp only [hd_N2, tg_O, c0]
  | e :: as, .inr (.inr (.inr (.inr (q, em, cr, crm)))) :: ls, hR => have c0 : h.2 (e / 2) = _ := hR.1.1; simp only [hd_N2, tg_O, c0]
/-- the layers change, the rest stays -/
theorem RT.lay {b : Nat} {as : List Nat} {h h' : Hs_t} {ls ls' : List Ly_t} {s : Sr_t} {lv lvm cl : Int32} {bag lt : List Int32} (hT : RT b as h ls s lv lvm cl bag lt) (hL : RLc b h' as ls') (hl : ls'.length = ls.length) (h4 : h'.1 = h.1) (hq : ∀ q, q < b + 31 → h'.2 q = h.2 q) : RT b as h' ls' s lv lvm cl bag lt := by
  obtain ⟨a1, a2, a3, a4, a5, a6, a7, a8, a9, a10, a11, a12⟩ := hT
  refine ⟨?_, ?_, ?_, ?_, ?_, ?_, ?_, hL, a9.frame fun q q1 q2 => hq q (by omega), a10, by rw [a11, hl], by rw [h4]; exact a12⟩
  · rw [hq _ (by omega), hl]; exact a1
  · rw [hq _ (by omega)]; exact a2
  · rw [hq _ (by omega)]; exact a3
  · rw [hq _ (by omega)]; exact a4
  · rw [hq _ (by omega)]; exact a5
  · rw [hq _ (by omega)]; exact a6
  · rw [hq _ (by omega)]; exact a7
theorem T_unread {b : Nat} {as : List Nat} {h : Hs_t} {w : Wd_t} (hT : RTw b as h w) (hv : wv_O w) (x : Int32) : TR b h (f_T_unread b x h) (op_unread w x).1 (op_unread w x).2 := by
  obtain ⟨ls, s, lv, lvm, cl, bag, lt⟩ := w
  have hT : RT b as h ls s lv lvm cl bag lt := hT
  have hv1 : iv_O ls s := hv.1
  rw [f_T_unread, ck_0 hT, Option.bind_some]
  simp only [op_unread]
  by_cases hc : cl = 0
  · rw [(T_rwc hT _).1 hc, if_pos hc]
    by_cases x1 : x < 0
    · rw [if_pos x1, if_pos x1]
      exact T_throw hT (FK.refl _ _) 9
    · rw [if_neg x1, if_neg x1]
      by_cases x2 : x ≤ 255
      · rw [if_pos x2, if_pos x2]
        have a1 := hT.1
        have a8 := hT.2.2.2.2.2.2.2.1
        have a10 := hT.2.2.2.2.2.2.2.2.2.1
        have htag := tag_hd a8 hT.2.2.2.2.2.2.2.2.1
        have f5 : fd_A [0] 5 h b = some (hd_N2 b as) := by simp only [fd_A, fd_V, a1]; rfl
        simp only [f5, Option.bind_some, is_T, htag]
        match as, ls, a8, a10, hv1, hT with
        | [], [], a8, a10, hv1, hT => exact T_throw hT (FK.refl _ _) 12
        | e :: as, .inl (rm, kp, tg, mq) :: ls, a8, a10, hv1, hT => exact T_throw hT (FK.refl _ _) 12
        | e :: as, .inr (.inr (.inl (lf, lm))) :: ls, a8, a10, hv1, hT => exact T_throw hT (FK.refl _ _) 12
        | e :: as, .inr (.inr (.inr (.inl (key, cd, cm)))) :: ls, a8, a10, hv1, hT => exact T_throw hT (FK.refl _ _) 12
        | e :: as, .inr (.inr (.inr (.inr (q, em, cr, crm)))) :: ls, a8, a10, hv1, hT => exact T_throw hT (FK.refl _ _) 12
        | e :: as, .inr (.inl (rm, st)) :: ls, a8, a10, hv1, hT =>
          obtain ⟨f, c0, c1, c2⟩ := a8.1.1
          have ep : e % 2 = 1 := a8.1.2
          have t1 := tp_ge a10.2
          have t2 := a10.1
          obtain ⟨o1, o2, o3, o4⟩ := hv1.1
          have f5' : fd_A [0] 5 h b = some (e / 2) := f5
          simp only [show ([4] : List Nat).contains 4 = true by decide, if_true, Option.bind_some, show ((1 : Int32) = 0) = False by decide, if_false]
          simp only [show hd_N2 b (e :: as) = e / 2 from rfl, fd_I, fd_V, fd_A, pt_V, pt_Z, ar_I, ar_Z, ar_R, as_I, as_Z, cp_I, ln_A, ck_T, tg_O, hp_2, List.contains_cons, List.contains_nil, List.getElem?_cons_zero, List.getElem?_cons_succ, List.set_cons_succ, List.set_cons_zero, List.length_cons, List.length_nil, Option.bind_some, Option.bind_none, Nat.reduceLT, Nat.reduceAdd, Nat.reduceBEq, BEq.rfl, beq_self_eq_true, Bool.or_false, Bool.or_true, Bool.true_or, Bool.false_or, decide_true, decide_false, Bool.not_false, Bool.not_true, Nat.zero_lt_succ, Nat.lt_add_left_iff_pos, Nat.succ_ne_self, ne_eq, not_false_eq_true, eq_self, if_true, if_false, ite_true, ite_false, bd_I, bd_V, bd_A, bd_L, re_I, re_V, Bool.true_and, Bool.and_true, reduceIte, reduceCtorEq, ↓reduceIte, Nat.reduceEqDiff, c0, c1, f_Psh_putBack]
          by_cases hr : st.length < rm
          · have r1 : in_R (ni st.length) rm = true := ni_in_t (by omega) hr
            have r2 : (ni st.length).toNatClampNeg = st.length := ni_nat (by omega)
            rw [if_pos (show ni st.length < Int32.ofNat rm from niT (b := rm) (by omega) (by omega) hr), if_pos hr]
            simp only [r1, r2, fd_I, fd_V, fd_A, pt_V, pt_Z, ar_I, ar_Z, ar_R, as_I, as_Z, cp_I, ln_A, ck_T, tg_O, hp_2, List.contains_cons, List.contains_nil, List.getElem?_cons_zero, List.getElem?_cons_succ, List.set_cons_succ, List.set_cons_zero, List.length_cons, List.length_nil, Option.bind_some, Option.bind_none, Nat.reduceLT, Nat.reduceAdd, Nat.reduceBEq, BEq.rfl, beq_self_eq_true, Bool.or_false, Bool.or_true, Bool.true_or, Bool.false_or, decide_true, decide_false, Bool.not_false, Bool.not_true, Nat.zero_lt_succ, Nat.lt_add_left_iff_pos, Nat.succ_ne_self, ne_eq, not_false_eq_true, eq_self, if_true, if_false, ite_true, ite_false, bd_I, bd_V, bd_A, bd_L, re_I, re_V, Bool.true_and, Bool.and_true, reduceIte, reduceCtorEq, ↓reduceIte, Nat.reduceEqDiff, c0, show ¬ e / 2 = e / 2 + 1 by omega, re_Z1, show ((1 : Int32) = 0) = False by decide, ni_p1]
            refine ⟨_, e :: as, rfl, ?_, ?_⟩
            · refine hT.lay (ls' := ly_P rm (x :: st) :: ls) ⟨⟨⟨upd f st.length x, hp_at _ _ _, by rw [hp_ne _ _ _ _ (by omega), hp_at], ?_⟩, ep⟩, a8.2.frame a10.2 fun q q1 q2 => by rw [hp_ne _ _ _ _ (by omega), hp_ne _ _ _ _ (by omega)]⟩ rfl rfl (fun q hq => by rw [hp_ne _ _ _ _ (by omega), hp_ne _ _ _ _ (by omega)])
              rw [List.length_cons, sl_snoc, sl_upd _ _ _ _ _ (by omega), c2, List.reverse_cons, Nat.zero_add]
              simp [upd]
            · exact FK.trans (FK.set (Or.inr (by omega))) (FK.set (Or.inr (by omega)))
          · rw [if_neg (show ¬ ni st.length < Int32.ofNat rm from niNT (b := rm) (by omega) (by omega) (by omega)), if_neg hr]
            simp only [re_Z0, if_true]
            exact T_throw hT (FK.refl _ _) 10
      · rw [if_neg x2, if_neg x2]
        exact T_throw hT (FK.refl _ _) 9
  · rw [if_neg hc]
    exact (T_rwc hT _).2 hc
theorem M_unread {m : Nat} {h : Hs_t} {g : Mg_t} {w : Wd_t} (hR : RWw g w) (hv : wv_O w) (x : Int32) : MO m h (f_M_unread m x (MH m g h)) (op_unread w x).1 (fun t => if t = 10 then 1 else if t = 9 then 2 else 3) none (op_unread w x).2 := by
  obtain ⟨ls, s, lv, lvm, cl, bag, lt⟩ := w
  have hR : RW g ls s lv lvm cl bag lt := hR
  have hv1 : iv_O ls s := hv.1
  have v2 : ls.length ≤ 5 := hv.2.1
  have e21 : g.1 21 = cl := hR.2.2.2.1
  have e6 := hR.2.2.1
  have key : ∀ (x2 sv : Int32), (sv = 0 ∨ ∃ rm st ls', ls = .inr (.inl (rm, st)) :: ls' ∧ sv = 1 ∧ x2 = ni ls'.length) → (sv = 0 → ∀ rm st ls', ¬ ls = .inr (.inl (rm, st)) :: ls') → MO m h (f_M_unread_b26 m x x2 sv (MH m g h)) (op_unread (ls, s, lv, lvm, cl, bag, lt) x).1 (fun t => if t = 10 then 1 else if t = 9 then 2 else 3) none (op_unread (ls, s, lv, lvm, cl, bag, lt) x).2 := by
    intro x2 sv hsv hno
    rw [f_M_unread_b26]
    simp only [mI_0, mP_0, mI_4, mP_4, mI_5, mP_5, mI_6, mP_6, mI_20, mP_20, mI_21, mP_21, mI_22, mP_22, mI_23, mP_23, mI_25, mP_25, mI_27, mP_27, mR_1, mG_1, mS_1, mR_2, mG_2, mS_2, mR_3, mG_3, mS_3, mR_7, mG_7, mS_7, mR_8, mG_8, mS_8, mR_9, mG_9, mS_9, mR_10, mG_10, mS_10, mR_11, mG_11, mS_11, mR_12, mG_12, mS_12, mR_13, mG_13, mS_13, mR_14, mG_14, mS_14, mR_15, mG_15, mS_15, mR_16, mG_16, mS_16, mR_17, mG_17, mS_17, mR_18, mG_18, mS_18, mR_19, mG_19, mS_19, mR_24, mG_24, mS_24, mR_26, mG_26, mS_26, mK_8, gS_1, gS_2, gA_1, gA_2, Option.bind_some, Option.bind_none, eq_self, if_true, if_false, ite_true, ite_false, bd_I, bd_V, bd_A, bd_L, re_I, re_V, Bool.true_and, Bool.and_true, reduceIte, reduceCtorEq, ↓reduceIte, Nat.reduceEqDiff, e21, op_unread]
    by_cases hc : cl = 0
    · simp only [hc, if_true]
      by_cases x1 : x < 0
      · simp only [x1, if_true, f_M_unread_b50, f_M_unread_b82, mI_0, mP_0, mI_4, mP_4, mI_5, mP_5, mI_6, mP_6, mI_20, mP_20, mI_21, mP_21, mI_22, mP_22, mI_23, mP_23, mI_25, mP_25, mI_27, mP_27, mR_1, mG_1, mS_1, mR_2, mG_2, mS_2, mR_3, mG_3, mS_3, mR_7, mG_7, mS_7, mR_8, mG_8, mS_8, mR_9, mG_9, mS_9, mR_10, mG_10, mS_10, mR_11, mG_11, mS_11, mR_12, mG_12, mS_12, mR_13, mG_13, mS_13, mR_14, mG_14, mS_14, mR_15, mG_15, mS_15, mR_16, mG_16, mS_16, mR_17, mG_17, mS_17, mR_18, mG_18, mS_18, mR_19, mG_19, mS_19, mR_24, mG_24, mS_24, mR_26, mG_26, mS_26, mK_8, gS_1, gS_2, gA_1, gA_2, Option.bind_some, Option.bind_none, eq_self, if_true, if_false, ite_true, ite_false, bd_I, bd_V, bd_A, bd_L, re_I, re_V, Bool.true_and, Bool.and_true, reduceIte, reduceCtorEq, ↓reduceIte, Nat.reduceEqDiff, show ¬ ((2 : Int32) ≤ 0) by decide]
        subst hc
        exact ⟨_, rfl, hR.cd 2, rfl⟩
      · simp only [x1, if_false]
        by_cases x3 : x ≤ 255
        · simp only [x3, if_true]
          subst hc
          rcases hsv with e | ⟨rm, st, ls', rfl, e, rfl⟩
          · simp only [e, if_true, f_M_unread_b82, mI_0, mP_0, mI_4, mP_4, mI_5, mP_5, mI_6, mP_6, mI_20, mP_20, mI_21, mP_21, mI_22, mP_22, mI_23, mP_23, mI_25, mP_25, mI_27, mP_27, mR_1, mG_1, mS_1, mR_2, mG_2, mS_2, mR_3, mG_3, mS_3, mR_7, mG_7, mS_7, mR_8, mG_8, mS_8, mR_9, mG_9, mS_9, mR_10, mG_10, mS_10, mR_11, mG_11, mS_11, mR_12, mG_12, mS_12, mR_13, mG_13, mS_13, mR_14, mG_14, mS_14, mR_15, mG_15, mS_15, mR_16, mG_16, mS_16, mR_17, mG_17, mS_17, mR_18, mG_18, mS_18, mR_19, mG_19, mS_19, mR_24, mG_24, mS_24, mR_26, mG_26, mS_26, mK_8, gS_1, gS_2, gA_1, gA_2, Option.bind_some, Option.bind_none, eq_self, if_true, if_false, ite_true, ite_false, bd_I, bd_V, bd_A, bd_L, re_I, re_V, Bool.true_and, Bool.and_true, reduceIte, reduceCtorEq, ↓reduceIte, Nat.reduceEqDiff, show ¬ ((3 : Int32) ≤ 0) by decide]
            have := hno e
            match ls, hR, this with
            | [], hR, _ => exact ⟨_, rfl, hR.cd 3, rfl⟩
            | .inl q :: ls, hR, _ => exact ⟨_, rfl, hR.cd 3, rfl⟩
            | .inr (.inr q) :: ls, hR, _ => exact ⟨_, rfl, hR.cd 3, rfl⟩
            | .inr (.inl (rm, st)) :: ls, hR, hn => exact absurd rfl (hn rm st ls)
          · subst e
            have hl : ls'.length < 5 := v2
            obtain ⟨o1, o2, o3, o4⟩ := hv1.1
            obtain ⟨a1, a2, a3, a4⟩ := hR.1.1
            have h1 : in_R (ni ls'.length) 5 = true := ni_in_t (by omega) hl
            have h2 : (ni ls'.length).toNatClampNeg = ls'.length := ni_nat (by omega)
            simp only [show ((1 : Int32) = 0) = False by decide, if_false, h1, h2, if_true, Option.bind_some, a2, a3]
            by_cases hr : st.length < rm
            · rw [if_neg (niNE (by omega) (by omega) (by omega)), if_pos hr]
              have h3 : in_R (ni (64 * ls'.length + st.length)) 320 = true := ni_in_t (by omega) (by omega)
              have h4 : (ni (64 * ls'.length + st.length)).toNatClampNeg = 64 * ls'.length + st.length := ni_nat (by omega)
              simp only [f_M_unread_b82, mI_0, mP_0, mI_4, mP_4, mI_5, mP_5, mI_6, mP_6, mI_20, mP_20, mI_21, mP_21, mI_22, mP_22, mI_23, mP_23, mI_25, mP_25, mI_27, mP_27, mR_1, mG_1, mS_1, mR_2, mG_2, mS_2, mR_3, mG_3, mS_3, mR_7, mG_7, mS_7, mR_8, mG_8, mS_8, mR_9, mG_9, mS_9, mR_10, mG_10, mS_10, mR_11, mG_11, mS_11, mR_12, mG_12, mS_12, mR_13, mG_13, mS_13, mR_14, mG_14, mS_14, mR_15, mG_15, mS_15, mR_16, mG_16, mS_16, mR_17, mG_17, mS_17, mR_18, mG_18, mS_18, mR_19, mG_19, mS_19, mR_24, mG_24, mS_24, mR_26, mG_26, mS_26, mK_8, gS_1, gS_2, gA_1, gA_2, Option.bind_some, Option.bind_none, eq_self, if_true, if_false, ite_true, ite_false, bd_I, bd_V, bd_A, bd_L, re_I, re_V, Bool.true_and, Bool.and_true, reduceIte, reduceCtorEq, ↓reduceIte, Nat.reduceEqDiff, show ((0 : Int32) ≤ 0) = True by decide, h1, h2, ni_64, a3, ni_add, h3, h4, ni_p1]
              refine ⟨gA (gA (gS g 0 0) 13 (upd (g.2 13) (64 * ls'.length + st.length) x)) 14 (upd (g.2 14) ls'.length (ni (st.length + 1))), rfl, ?_, rfl⟩
              obtain ⟨b1, b2, b3, b4, b5, b6, b7, b8, b9, b10⟩ := hR
              refine ⟨⟨⟨a1, a2, by simp only [gA_2, eq_self, if_true, if_false, ite_true, ite_false, bd_I, bd_V, bd_A, bd_L, re_I, re_V, Bool.true_and, Bool.and_true, reduceIte, reduceCtorEq, ↓reduceIte, Nat.reduceEqDiff, upd, List.length_cons], ?_⟩, ?_⟩, b2, b3, b4, b5, b6, b7, b8, b9, b10⟩
              · show sl (upd (g.2 13) (64 * ls'.length + st.length) x) (64 * ls'.length) (st.length + 1) = _
                rw [sl_snoc, sl_upd _ _ _ _ _ (by omega), a4, List.reverse_cons]
                simp [upd]
              · refine RMl.idx (g := g) (s := s) (n := ls'.length) (fun k k1 k2 k3 i hi => ?_) (fun j hj => ?_) hv1.2.2 (Nat.le_refl _) b1.2
                · simp only [gA_2, gS_2]
                  by_cases k14 : k = 14
                  · rw [if_pos k14, k14]; simp only [upd]; rw [if_neg (by omega)]
                  · rw [if_neg k14, if_neg k3]
                · simp only [gA_2, gS_2, eq_self, if_true, if_false, ite_true, ite_false, bd_I, bd_V, bd_A, bd_L, re_I, re_V, Bool.true_and, Bool.and_true, reduceIte, reduceCtorEq, ↓reduceIte, Nat.reduceEqDiff, upd]; rw [if_neg (by omega)]
            · have hrr : st.length = rm := by omega
              rw [if_pos (by rw [hrr]), if_neg hr]
              simp only [f_M_unread_b82, mI_0, mP_0, mI_4, mP_4, mI_5, mP_5, mI_6, mP_6, mI_20, mP_20, mI_21, mP_21, mI_22, mP_22, mI_23, mP_23, mI_25, mP_25, mI_27, mP_27, mR_1, mG_1, mS_1, mR_2, mG_2, mS_2, mR_3, mG_3, mS_3, mR_7, mG_7, mS_7, mR_8, mG_8, mS_8, mR_9, mG_9, mS_9, mR_10, mG_10, mS_10, mR_11, mG_11, mS_11, mR_12, mG_12, mS_12, mR_13, mG_13, mS_13, mR_14, mG_14, mS_14, mR_15, mG_15, mS_15, mR_16, mG_16, mS_16, mR_17, mG_17, mS_17, mR_18, mG_18, mS_18, mR_19, mG_19, mS_19, mR_24, mG_24, mS_24, mR_26, mG_26, mS_26, mK_8, gS_1, gS_2, gA_1, gA_2, Option.bind_some, Option.bind_none, eq_self, if_true, if_false, ite_true, ite_false, bd_I, bd_V, bd_A, bd_L, re_I, re_V, Bool.true_and, Bool.and_true, reduceIte, reduceCtorEq, ↓reduceIte, Nat.reduceEqDiff, show ¬ ((1 : Int32) ≤ 0) by decide]
              exact ⟨_, rfl, hR.cd 1, rfl⟩
        · simp only [x3, if_false, f_M_unread_b50, f_M_unread_b82, mI_0, mP_0, mI_4, mP_4, mI_5, mP_5, mI_6, mP_6, mI_20, mP_20, mI_21, mP_21, mI_22, mP_22, mI_23, mP_23, mI_25, mP_25, mI_27, mP_27, mR_1, mG_1, mS_1, mR_2, mG_2, mS_2, mR_3, mG_3, mS_3, mR_7, mG_7, mS_7, mR_8, mG_8, mS_8, mR_9, mG_9, mS_9, mR_10, mG_10, mS_10, mR_11, mG_11, mS_11, mR_12, mG_12, mS_12, mR_13, mG_13, mS_13, mR_14, mG_14, mS_14, mR_15, mG_15, mS_15, mR_16, mG_16, mS_16, mR_17, mG_17, mS_17, mR_18, mG_18, mS_18, mR_19, mG_19, mS_19, mR_24, mG_24, mS_24, mR_26, mG_26, mS_26, mK_8, gS_1, gS_2, gA_1, gA_2, Option.bind_some, Option.bind_none, eq_self, if_true, if_false, ite_true, ite_false, bd_I, bd_V, bd_A, bd_L, re_I, re_V, Bool.true_and, Bool.and_true, reduceIte, reduceCtorEq, ↓reduceIte, Nat.reduceEqDiff, show ¬ ((2 : Int32) ≤ 0) by decide]
          subst hc
          exact ⟨_, rfl, hR.cd 2, rfl⟩
    · simp only [hc, if_false, f_M_unread_b82, mI_0, mP_0, mI_4, mP_4, mI_5, mP_5, mI_6, mP_6, mI_20, mP_20, mI_21, mP_21, mI_22, mP_22, mI_23, mP_23, mI_25, mP_25, mI_27, mP_27, mR_1, mG_1, mS_1, mR_2, mG_2, mS_2, mR_3, mG_3, mS_3, mR_7, mG_7, mS_7, mR_8, mG_8, mS_8, mR_9, mG_9, mS_9, mR_10, mG_10, mS_10, mR_11, mG_11, mS_11, mR_12, mG_12, mS_12, mR_13, mG_13, mS_13, mR_14, mG_14, mS_14, mR_15, mG_15, mS_15, mR_16, mG_16, mS_16, mR_17, mG_17, mS_17, mR_18, mG_18, mS_18, mR_19, mG_19, mS_19, mR_24, mG_24, mS_24, mR_26, mG_26, mS_26, mK_8, gS_1, gS_2, gA_1, gA_2, Option.bind_some, Option.bind_none, eq_self, if_true, if_false, ite_true, ite_false, bd_I, bd_V, bd_A, bd_L, re_I, re_V, Bool.true_and, Bool.and_true, reduceIte, reduceCtorEq, ↓reduceIte, Nat.reduceEqDiff, show ¬ ((1 : Int32) ≤ 0) by decide]
      exact ⟨_, rfl, hR.cd 1, rfl⟩
  rw [f_M_unread]
  simp only [mI_0, mP_0, mI_4, mP_4, mI_5, mP_5, mI_6, mP_6, mI_20, mP_20, mI_21, mP_21, mI_22, mP_22, mI_23, mP_23, mI_25, mP_25, mI_27, mP_27, mR_1, mG_1, mS_1, mR_2, mG_2, mS_2, mR_3, mG_3, mS_3, mR_7, mG_7, mS_7, mR_8, mG_8, mS_8, mR_9, mG_9, mS_9, mR_10, mG_10, mS_10, mR_11, mG_11, mS_11, mR_12, mG_12, mS_12, mR_13, mG_13, mS_13, mR_14, mG_14, mS_14, mR_15, mG_15, mS_15, mR_16, mG_16, mS_16, mR_17, mG_17, mS_17, mR_18, mG_18, mS_18, mR_19, mG_19, mS_19, mR_24, mG_24, mS_24, mR_26, mG_26, mS_26, mK_8, gS_1, gS_2, gA_1, gA_2, Option.bind_some, Option.bind_none, e6]
  match ls, hR, hv1, v2, key with
  | [], hR, hv1, v2, key =>
    rw [if_pos (show ni ([] : List Ly_t).length - 1 < 0 by decide), f_M_unread_b25]
    exact key _ 0 (Or.inl rfl) (fun _ rm st ls' => by simp)
  | L :: ls, hR, hv1, v2, key =>
    have hl : ls.length < 5 := v2
    have h1 : in_R (ni ls.length) 5 = true := ni_in_t (by omega) hl
    have h2 : (ni ls.length).toNatClampNeg = ls.length := ni_nat (by omega)
    rw [show ni (L :: ls).length - 1 = ni ls.length from ni_s1 _, if_neg (ni_nn (by omega))]
    simp only [h1, h2, if_true, Option.bind_some]
    match L, hR, key with
    | .inl (rm, kp, tg, mq), hR, key => rw [hR.1.1.1, if_neg (by decide), f_M_unread_b25]; exact key _ 0 (Or.inl rfl) (fun _ rm st ls' => by simp)
    | .inr (.inl (rm, st)), hR, key => rw [hR.1.1.1, if_pos rfl]; exact key _ 1 (Or.inr ⟨rm, st, ls, rfl, rfl, rfl⟩) (fun e => by cases e)
    | .inr (.inr (.inl (lf, lm))), hR, key => rw [hR.1.1.1, if_neg (by decide), f_M_unread_b25]; exact key _ 0 (Or.inl rfl) (fun _ rm st ls' => by simp)
    | .inr (.inr (.inr (.inl (k, cd, cm)))), hR, key => rw [hR.1.1.1, if_neg (by decide), f_M_unread_b25]; exact key _ 0 (Or.inl rfl) (fun _ rm st ls' => by simp)
    | .inr (.inr (.inr (.inr (q, em, cr, crm)))), hR, key => rw [hR.1.1.1, if_neg (by decide), f_M_unread_b25]; exact key _ 0 (Or.inl rfl) (fun _ rm st ls' => by simp)
