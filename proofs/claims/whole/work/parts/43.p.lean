theorem gv_tw (rm : Nat) (kp tg : List Int32) (mq : Option Nat) (n : Nat) : tw_L (gv_B rm kp tg mq n) = 1 := by
  unfold gv_B; split
  · rfl
  · split <;> rfl
theorem L_buf (b a d : Nat) (as : List Nat) (rm : Nat) (kp tg : List Int32) (mq : Option Nat) (ls : List Ly_t) (s : Sr_t) (ih : an_H b d as ls s) (hk : ok_A b ((2 * a + 1) :: as)) (hv : iv_O (ly_B rm kp tg mq :: ls) s) : an_H b (d + 1) ((2 * a + 1) :: as) (ly_B rm kp tg mq :: ls) s := by
  intro n r fr len f h hR hS hn0 hn hr hfp hl hl2
  have ea : (2 * a + 1) / 2 = a := by omega
  have ew : (2 * a + 1) % 2 = 1 := by omega
  have hra : ¬ FP b as r ∧ r ≠ a ∧ (1 = 1 → r ≠ a + 1) := by have w := fp_up hk hfp; rw [ea, ew] at w; exact w
  have hfa : ¬ FP b as a ∧ ¬ FP b as (a + 1) := by have w := fp_a hk; rw [ea] at w; exact w
  have hRC := hR.1.1
  rw [ea] at hRC
  have hO := hv.1
  have hra : ¬ FP b as r ∧ r ≠ a ∧ r ≠ a + 1 := ⟨hra.1, hra.2.1, hra.2.2 rfl⟩
  obtain ⟨fi, fk, mz, ml, c0, c1, c2, c3, c4, c5⟩ := id hRC
  obtain ⟨o1, o2, o3, o4, o5, o6⟩ := hv.1
  have hk32 : kp.length ≤ 32 := by
    cases mq with
    | none => rw [show kp = [] from o6]; simp
    | some l => have : l ≤ 32 ∧ kp.length ≤ l := o6; omega
  rw [show hd_N2 b ((2 * a + 1) :: as) = a from ea, v_answer]
  simp only [tg_O, c0, if_true, if_false, Nat.reduceEqDiff]
  rw [f_Buf_answer, rq_cons]
  simp only [fd_I, fd_V, fd_A, pt_V, pt_Z, ar_I, ar_Z, ar_R, as_I, as_Z, cp_I, ln_A, ck_T, tg_O, hp_2, List.contains_cons, List.contains_nil, List.getElem?_cons_zero, List.getElem?_cons_succ, List.set_cons_succ, List.set_cons_zero, List.length_cons, List.length_nil, Option.bind_some, Option.bind_none, Nat.reduceLT, Nat.reduceAdd, Nat.reduceBEq, BEq.rfl, beq_self_eq_true, Bool.or_false, Bool.or_true, Bool.true_or, Bool.false_or, decide_true, decide_false, Bool.not_false, Bool.not_true, Nat.zero_lt_succ, Nat.lt_add_left_iff_pos, Nat.succ_ne_self, ne_eq, not_false_eq_true, eq_self, if_true, if_false, ite_true, ite_false, bd_I, bd_V, bd_A, bd_L, re_I, re_V, Bool.true_and, Bool.and_true, reduceIte, reduceCtorEq, ↓reduceIte, Nat.reduceEqDiff, c0]
  match tg, c0, c3, c4, o4, o5, hO, hRC, hv, hR with
  | t :: tg, c0, c3, c4, o4, o5, hO, hRC, hv, hR =>
    rw [if_neg (niNE (by omega) (by omega) (by simp only [List.length_cons]; omega))]
    simp only [an_L]
    obtain ⟨h2, f2, q1, q2, q3, q4, q5, q6, q7⟩ := B_b57 (v_answer d) a (hd_N2 b as) r fr len n rm kp (t :: tg) mq f h hO hRC hn hr hra.2.1 hra.2.2 hl hl2
    rw [q1]
    exact an_fin (h1 := h) (h2 := h2) (f2 := f2) hk hfp ea (ew.trans (gv_tw _ _ _ _ _).symm) rfl q2 (fun q p _ p2 => q7 q p p2) q3 q4 (fun cs hcs => by cases hcs; exact q5) q6 hR.2 hS (fun q _ _ _ _ => rfl)
  | [], c0, c3, c4, o4, o5, hO, hRC, hv, hR =>
    simp only [List.length_nil, Nat.add_zero, if_true, an_L]
    simp only [List.length_nil, Nat.add_zero] at c0 c4 o5
    -- filling
    have fill : an_K b ((2 * a + 1) :: as) h r fr len f (f_Buf_answer_b37 (v_answer d) a (ni n) r (ni fr) h) (match rq ls rm s with
        | (some (t :: bs), ls1, s1) => (some ((t :: bs).take n), gv_B rm kp (t :: bs) mq n :: ls1, s1)
        | (z, ls1, s1) => (z, ly_B rm kp [] mq :: ls1, s1)) := by
      rw [f_Buf_answer_b37, f_Buf_fill]
      have n1 : (ni fi).toNatClampNeg = fi := ni_nat (by omega)
      have n2 : (ni kp.length).toNatClampNeg = kp.length := ni_nat (by omega)
      have n3 : (0 : Int32).toNatClampNeg = 0 := by decide
      simp only [fd_I, fd_V, fd_A, pt_V, pt_Z, ar_I, ar_Z, ar_R, as_I, as_Z, cp_I, ln_A, ck_T, tg_O, hp_2, List.contains_cons, List.contains_nil, List.getElem?_cons_zero, List.getElem?_cons_succ, List.set_cons_succ, List.set_cons_zero, List.length_cons, List.length_nil, Option.bind_some, Option.bind_none, Nat.reduceLT, Nat.reduceAdd, Nat.reduceBEq, BEq.rfl, beq_self_eq_true, Bool.or_false, Bool.or_true, Bool.true_or, Bool.false_or, decide_true, decide_false, Bool.not_false, Bool.not_true, Nat.zero_lt_succ, Nat.lt_add_left_iff_pos, Nat.succ_ne_self, ne_eq, not_false_eq_true, eq_self, if_true, if_false, ite_true, ite_false, bd_I, bd_V, bd_A, bd_L, re_I, re_V, Bool.true_and, Bool.and_true, reduceIte, reduceCtorEq, ↓reduceIte, Nat.reduceEqDiff, c0, c1, ni_sub2, n1, n2, n3, ni_nn (show fi < 2147483648 by omega), ni_nn (show kp.length < 2147483648 by omega), show ¬ (0 : Int32) < 0 by decide, show decide (fi + kp.length ≤ 32 + rm) = true from decide_eq_true (by omega), show decide (0 + kp.length ≤ 32 + rm) = true from decide_eq_true (by omega), show ¬ a = a + 1 by omega]
      simp only [hp_SS]
      generalize hh4 : hp_S (hp_S h (a + 1) (ce_I (32 + rm) (va_cpy fk fk fi 0 kp.length))) a (ce_O 3 [.ref (hd_N2 b as), .int (ni rm), .ref (a + 1), .int 0, .int (ni kp.length), .int (ni kp.length), .int mz, .int ml]) = h4
      have p0 : h4.2 a = some (ce_O 3 [.ref (hd_N2 b as), .int (ni rm), .ref (a + 1), .int (ni 0), .int (ni kp.length), .int (ni kp.length), .int mz, .int ml]) := by rw [← hh4]; exact hp_at _ _ _
      have p1 : h4.2 (a + 1) = some (ce_I (32 + rm) (va_cpy fk fk fi 0 kp.length)) := by rw [← hh4, hp_ne _ _ _ _ (by omega), hp_at]
      have p2 : ∀ q, q ≠ a → q ≠ a + 1 → h4.2 q = h.2 q := fun q w1 w2 => by rw [← hh4, hp_ne _ _ _ _ w1, hp_ne _ _ _ _ w2]
      have p3 : h4.1 = h.1 := by rw [← hh4]; rfl
      have t1 := tp_ge hk.2
      have t2 := hk.1
      obtain ⟨h1, f1, e1, e2, e3, e4, e5, e6, e7, e8⟩ := ih rm (a + 1) kp.length (32 + rm) _ h4 (hR.2.frame hk.2 fun q w1 w2 => p2 q (by omega) (by omega)) (hS.frame fun q w1 w2 => p2 q (by omega) (by omega)) o1 (by omega) p1 hfa.2 (by omega) (by omega)
      have hK := rq_iv ls rm s o1 hv.2.2
      have c2' : h1.2 a = some (ce_O 3 [.ref (hd_N2 b as), .int (ni rm), .ref (a + 1), .int (ni 0), .int (ni kp.length), .int (ni kp.length), .int mz, .int ml]) := by rw [e8 a hfa.1 (by omega)]; exact p0
      have hkp : sl f1 0 kp.length = kp := by
        refine (sl_congr (j := 0) fun k hk => ?_).trans (sl_cpy fk fk fi 0 kp.length) |>.trans c2
        rw [e5 (0 + k) (by omega)]
      have hr1 : h1.2 r = some (ce_I len f) := by rw [e8 r hra.1 hra.2.2, p2 r hra.2.1 hra.2.2]; exact hr
      have hF1 : ∀ q, ¬ FP b as q → q ≠ a → q ≠ a + 1 → q ≠ r → h1.2 q = h.2 q := fun q w1 w2 w3 _ => by rw [e8 q w1 w3, p2 q w2 w3]
      simp only [e1, eq_self, if_true, if_false, ite_true, ite_false, bd_I, bd_V, bd_A, bd_L, re_I, re_V, Bool.true_and, Bool.and_true, reduceIte, reduceCtorEq, ↓reduceIte, Nat.reduceEqDiff]
      generalize rq ls rm s = z at *
      obtain ⟨z, ls1, s1⟩ := z
      match z, e1, e2, e3, e6, hK with
      | none, e1, e2, e3, e6, hK =>
        simp only [rc_I, if_true, f_Buf_fill_b86, f_Buf_answer_b54, re_I]
        exact an_fin (h1 := h1) (h2 := h1) (f2 := f) hk hfp ea ew rfl ⟨0, f1, mz, ml, by simp only [List.length_nil, Nat.zero_add, Nat.add_zero]; exact c2', e4, hkp, rfl, by simp only [List.length_nil]; omega, c5⟩ (fun q _ _ _ => rfl) hr1 (fun _ _ => rfl) (fun bs e => by cases e) (by rw [e7, p3]) e2 e3 (fun q w1 w2 w3 w4 => hF1 q w1 w2 (w3 ew) w4)
      | some [], e1, e2, e3, e6, hK =>
        simp only [rc_I, List.length_nil, show (ni 0 = -1) = False from eq_false (ni_m (by omega)), if_false, f_Buf_fill_b86, f_Buf_answer_b54, re_I, fd_I, fd_V, fd_A, pt_V, pt_Z, ar_I, ar_Z, ar_R, as_I, as_Z, cp_I, ln_A, ck_T, tg_O, hp_2, List.contains_cons, List.contains_nil, List.getElem?_cons_zero, List.getElem?_cons_succ, List.set_cons_succ, List.set_cons_zero, List.length_cons, List.length_nil, Option.bind_some, Option.bind_none, Nat.reduceLT, Nat.reduceAdd, Nat.reduceBEq, BEq.rfl, beq_self_eq_true, Bool.or_false, Bool.or_true, Bool.true_or, Bool.false_or, decide_true, decide_false, Bool.not_false, Bool.not_true, Nat.zero_lt_succ, Nat.lt_add_left_iff_pos, Nat.succ_ne_self, ne_eq, not_false_eq_true, eq_self, if_true, if_false, ite_true, ite_false, bd_I, bd_V, bd_A, bd_L, re_I, re_V, Bool.true_and, Bool.and_true, reduceIte, reduceCtorEq, ↓reduceIte, Nat.reduceEqDiff, c2', show (ni 0 = 0) = True by decide, ni_add, Nat.add_zero]
        refine an_fin (h1 := h1) (f2 := f) (z := some []) hk hfp ea ew rfl ⟨0, f1, mz, ml, by simp only [List.length_nil, Nat.zero_add, Nat.add_zero]; exact hp_at _ _ _, by rw [hp_ne _ _ _ _ (by omega)]; exact e4, hkp, rfl, by simp only [List.length_nil]; omega, c5⟩ (fun q w _ _ => hp_ne _ _ _ _ w) (by rw [hp_ne _ _ _ _ hra.2.1]; exact hr1) (fun _ _ => rfl) (fun bs e => by cases e; rfl) (by rw [hp_1, e7, p3]) e2 e3 (fun q w1 w2 w3 w4 => hF1 q w1 w2 (w3 ew) w4)
      | some (t :: bs), e1, e2, e3, e6, hK =>
        have hb := hK.2.2.2.2.2.2.2.2 (t :: bs) rfl
        have hsl := e6 _ rfl
        generalize hss : t :: bs = ss at *
        have hs1 : 1 ≤ ss.length := by rw [← hss]; simp
        have hb1 := hb.1
        have m1 := ni_m (show ss.length < 2147483648 by omega)
        have m0 : ¬ (ni ss.length = 0) := niNE (b := 0) (by omega) (by omega) (by omega)
        simp only [rc_I, m1, m0, if_false, f_Buf_fill_b86, re_I, fd_I, fd_V, fd_A, pt_V, pt_Z, ar_I, ar_Z, ar_R, as_I, as_Z, cp_I, ln_A, ck_T, tg_O, hp_2, List.contains_cons, List.contains_nil, List.getElem?_cons_zero, List.getElem?_cons_succ, List.set_cons_succ, List.set_cons_zero, List.length_cons, List.length_nil, Option.bind_some, Option.bind_none, Nat.reduceLT, Nat.reduceAdd, Nat.reduceBEq, BEq.rfl, beq_self_eq_true, Bool.or_false, Bool.or_true, Bool.true_or, Bool.false_or, decide_true, decide_false, Bool.not_false, Bool.not_true, Nat.zero_lt_succ, Nat.lt_add_left_iff_pos, Nat.succ_ne_self, ne_eq, not_false_eq_true, eq_self, if_true, if_false, ite_true, ite_false, bd_I, bd_V, bd_A, bd_L, re_I, re_V, Bool.true_and, Bool.and_true, reduceIte, reduceCtorEq, ↓reduceIte, Nat.reduceEqDiff, c2', ni_add]
        have hO2 : ly_O (ly_B rm kp ss mq) := ⟨o1, o2, o3, hb.2.1, by omega, o6⟩
        obtain ⟨h2, f2, q1, q2, q3, q4, q5, q6, q7⟩ := B_b57 (v_answer d) a (hd_N2 b as) r fr len n rm kp ss mq f (hp_S h1 a (ce_O 3 [.ref (hd_N2 b as), .int (ni rm), .ref (a + 1), .int (ni 0), .int (ni kp.length), .int (ni (kp.length + ss.length)), .int mz, .int ml])) hO2 ⟨0, f1, mz, ml, by simp only [Nat.zero_add]; exact hp_at _ _ _, by rw [hp_ne _ _ _ _ (by omega)]; exact e4, hkp, by rw [Nat.zero_add]; exact hsl, by omega, c5⟩ hn (by rw [hp_ne _ _ _ _ hra.2.1]; exact hr1) hra.2.1 hra.2.2 hl hl2
        rw [q1]
        subst hss
        exact an_fin (h1 := h1) (h2 := h2) (f2 := f2) hk hfp ea (ew.trans (gv_tw _ _ _ _ _).symm) rfl q2 (fun q p w p2 => by rw [q7 q p p2, hp_ne _ _ _ _ p]) q3 q4 (fun cs hcs => by cases hcs; exact q5) (by rw [q6, hp_1, e7, p3]) e2 e3 (fun q w1 w2 w3 w4 => hF1 q w1 w2 (w3 ew) w4)
    cases mq with
    | some l =>
      have hz : ¬ (mz = 0) := by rw [c5.1]; decide
      simp only [hz, if_false, be_L, ps_L, tr_L, ite_self, show ((0 : Int32) = 1) = False by decide]
      generalize rq ls rm s = z at fill ⊢
      obtain ⟨z, ls1, s1⟩ := z
      match z, fill with
      | none, fill => exact fill
      | some [], fill => exact fill
      | some (t :: bs), fill => exact fill
    | none =>
      have hz : mz = 0 := c5
      by_cases hb : rm ≤ n
      · rw [if_neg (niNT (by omega) (by omega) hb)]
        simp only [hz, if_true, be_L, ps_L, tr_L, if_pos hb]
        obtain ⟨h1, f1, e1, e2, e3, e4, e5, e6, e7, e8⟩ := ih n r fr len f h hR.2 hS hn0 hn hr hra.1 hl hl2
        have q0 := e8 a hfa.1 (fun e => hra.2.1 e.symm)
        have q1 := e8 (a + 1) hfa.2 (fun e => hra.2.2 e.symm)
        simp only [e1, eq_self, if_true, if_false, ite_true, ite_false, bd_I, bd_V, bd_A, bd_L, re_I, re_V, Bool.true_and, Bool.and_true, reduceIte, reduceCtorEq, ↓reduceIte, Nat.reduceEqDiff]
        generalize rq ls n s = z at *
        obtain ⟨z, ls1, s1⟩ := z
        have hC : RC (hd_N2 b as) a h1 (ly_B rm kp [] none) := hRC.frame q0 (fun _ => q1)
        cases z with
        | none => exact an_fin (h1 := h1) (h2 := h1) hk hfp ea ew rfl hC (fun q _ _ _ => rfl) e4 e5 e6 e7 e2 e3 (fun q p _ _ p2 => e8 q p p2)
        | some bs => exact an_fin (h1 := h1) (h2 := h1) hk hfp ea ew rfl hC (fun q _ _ _ => rfl) e4 e5 e6 e7 e2 e3 (fun q p _ _ p2 => e8 q p p2)
      · rw [if_pos (niT (by omega) (by omega) (by omega))]
        simp only [be_L, ps_L, tr_L, if_neg hb, show ((0 : Int32) = 1) = False by decide, if_false]
        generalize rq ls rm s = z at fill ⊢
        obtain ⟨z, ls1, s1⟩ := z
        match z, fill with
        | none, fill => exact fill
        | some [], fill => exact fill
        | some (t :: bs), fill => exact fill
/-- the program's request is rq -/
theorem T_answer (b : Nat) : ∀ (as : List Nat) (ls : List Ly_t) (d : Nat) (s : Sr_t), ok_A b as → iv_O ls s → as.length = ls.length → as.length + 1 ≤ d → an_H b d as ls s
  | [], [], d + 1, s, _, hv, _, _ => fun n r fr len f h hR hS hn0 hn hr hfp hl hl2 => S_answer b d n r fr len f h s hS hv hn hr hfp hl hl2
  | a :: as, L :: ls, d + 1, s, hk, hv, hln, hd => by
    have ih := T_answer b as ls d s hk.2 hv.2.2 (by simpa using hln) (by simp only [List.length_cons] at hd; omega)
    intro n r fr len f h hR
    have hp := hR.1.2
    match L, hv, hR, hp with
    | .inl (rm, kp, tg, mq), hv, hR, hp =>
      obtain ⟨c, rfl⟩ : ∃ c, a = 2 * c + 1 := ⟨a / 2, by simp only [tw_L] at hp; omega⟩
      exact L_buf b c d as rm kp tg mq ls s ih hk hv n r fr len f h hR
    | .inr (.inl (rm, st)), hv, hR, hp =>
      obtain ⟨c, rfl⟩ : ∃ c, a = 2 * c + 1 := ⟨a / 2, by simp only [tw_L] at hp; omega⟩
      exact L_psh b c d as rm st ls s ih hk hv n r fr len f h hR
    | .inr (.inr (.inl (lf, lm))), hv, hR, hp =>
      obtain ⟨c, rfl⟩ : ∃ c, a = 2 * c := ⟨a / 2, by simp only [tw_L] at hp; omega⟩
      exact L_lim b c d as lf lm ls s ih hk hv n r fr len f h hR
    | .inr (.inr (.inr (.inl (key, cd, cm)))), hv, hR, hp =>
      obtain ⟨c, rfl⟩ : ∃ c, a = 2 * c := ⟨a / 2, by simp only [tw_L] at hp; omega⟩
      exact L_cod b c d as key cd cm ls s ih hk hv n r fr len f h hR
    | .inr (.inr (.inr (.inr (e, em, cr, crm)))), hv, hR, hp =>
      obtain ⟨c, rfl⟩ : ∃ c, a = 2 * c := ⟨a / 2, by simp only [tw_L] at hp; omega⟩
      exact L_lin b c d as e em cr crm ls s ih hk hv n r fr len f h hR
