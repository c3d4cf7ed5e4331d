theorem sl_rev_cons {f : Nat → Int32} {x : Int32} {st : List Int32} (h : sl f 0 (x :: st).length = (x :: st).reverse) : f st.length = x ∧ sl f 0 st.length = st.reverse := by
  rw [List.length_cons, sl_snoc, List.reverse_cons, Nat.zero_add] at h
  have h2 := List.append_inj h (by rw [sl_len, List.length_reverse])
  exact ⟨by have := h2.2; simpa using this, h2.1⟩
theorem C_psh (W : Nat → Int32 → Nat → Int32 → Hs_t → Rs_t) (a bl r fr len rm : Nat) (fb : Nat → Int32) (hra : r ≠ a) (hra1 : r ≠ a + 1) (hl2 : len ≤ 120) (hrm : rm ≤ 8) (d : Nat) : ∀ (i c k : Nat) (st : List Int32) (f : Nat → Int32) (h : Hs_t), i + d = c → fr + c ≤ len → d ≤ st.length → st.length ≤ rm → sl fb 0 st.length = st.reverse → h.2 a = some (ce_O 4 [.ref bl, .ref (a + 1), .int (ni st.length)]) → h.2 (a + 1) = some (ce_I rm fb) → h.2 r = some (ce_I len f) → ∃ h' f', f_Psh_answer_b31 W (k + d + 1) a r (ni fr) (ni c) (ni i) h = re_I (ni c) h' ∧ h'.2 a = some (ce_O 4 [.ref bl, .ref (a + 1), .int (ni (st.drop d).length)]) ∧ sl fb 0 (st.drop d).length = (st.drop d).reverse ∧ h'.2 r = some (ce_I len f') ∧ sl f' (fr + i) d = st.take d ∧ (∀ j, j < fr + i → f' j = f j) ∧ h'.1 = h.1 ∧ ∀ q, q ≠ a → q ≠ r → h'.2 q = h.2 q := by
  induction d with
  | zero =>
    intro i c k st f h hi hc hd hs hsl ha ha1 hr
    rw [f_Psh_answer_b31, if_pos (niL (by omega) (by omega) (by omega))]
    exact ⟨h, f, rfl, ha, hsl, hr, rfl, fun _ _ => rfl, rfl, fun _ _ _ => rfl⟩
  | succ d ih =>
    intro i c k st f h hi hc hd hs hsl ha ha1 hr
    match st, hd, hs, hsl, ha with
    | [], hd, hs, hsl, ha => simp at hd
    | x :: st, hd, hs, hsl, ha =>
      obtain ⟨s1, s2⟩ := sl_rev_cons hsl
      simp only [List.length_cons] at hd hs
      have h4 : in_R (ni (fr + i)) len = true := ni_in_t (by omega) (by omega)
      have h6 : (ni (fr + i)).toNatClampNeg = fr + i := ni_nat (by omega)
      have h7 : in_R (ni st.length) rm = true := ni_in_t (by omega) (by omega)
      have h8 : (ni st.length).toNatClampNeg = st.length := ni_nat (by omega)
      rw [show k + (d + 1) + 1 = (k + d + 1) + 1 by omega, f_Psh_answer_b31, if_neg (niNL (by omega) (by omega) (by omega))]
      simp only [fd_I, fd_V, fd_A, pt_V, pt_Z, ar_I, ar_Z, ar_R, as_I, as_Z, cp_I, ln_A, ck_T, tg_O, hp_2, List.contains_cons, List.contains_nil, List.getElem?_cons_zero, List.getElem?_cons_succ, List.set_cons_succ, List.set_cons_zero, List.length_cons, List.length_nil, Option.bind_some, Option.bind_none, Nat.reduceLT, Nat.reduceAdd, Nat.reduceBEq, BEq.rfl, beq_self_eq_true, Bool.or_false, Bool.or_true, Bool.true_or, Bool.false_or, decide_true, decide_false, Bool.not_false, Bool.not_true, Nat.zero_lt_succ, Nat.lt_add_left_iff_pos, Nat.succ_ne_self, ne_eq, not_false_eq_true, eq_self, if_true, if_false, ite_true, ite_false, bd_I, bd_V, bd_A, bd_L, re_I, re_V, Bool.true_and, Bool.and_true, reduceIte, reduceCtorEq, ↓reduceIte, Nat.reduceEqDiff, ha, ha1, hr, ni_add, ni_s1, h4, h6, h7, h8, if_neg hra, s1, if_neg (show ¬ a + 1 = a by omega)]
      rw [ni_p1]
      obtain ⟨h', f', e1, e2, e3, e4, e5, e6, e7, e8⟩ := ih (i + 1) c k st (upd f (fr + i) x) (hp_S (hp_S h a (ce_O 4 [.ref bl, .ref (a + 1), .int (ni st.length)])) r (ce_I len (upd f (fr + i) x))) (by omega) hc (by omega) (by omega) s2 (by rw [hp_ne _ _ _ _ (fun e => hra e.symm), hp_at]) (by rw [hp_ne _ _ _ _ (fun e => hra1 e.symm), hp_ne _ _ _ _ (by omega)]; exact ha1) (hp_at _ _ _)
      refine ⟨h', f', e1, by rw [List.drop_succ_cons]; exact e2, by rw [List.drop_succ_cons]; exact e3, e4, ?_, ?_, e7, ?_⟩
      · simp only [sl, List.take_succ_cons]
        have h0 := e6 (fr + i) (by omega)
        rw [h0, show fr + i + 1 = fr + (i + 1) by omega, e5]
        simp [upd]
      · intro j hj
        rw [e6 j (by omega)]
        simp only [upd]; rw [if_neg (by omega)]
      · intro q q1 q2
        rw [e8 q q1 q2, hp_ne _ _ _ _ q2, hp_ne _ _ _ _ q1]
theorem L_psh (b a d : Nat) (as : List Nat) (rm : Nat) (st : List Int32) (ls : List Ly_t) (s : Sr_t) (ih : an_H b d as ls s) (hk : ok_A b ((2 * a + 1) :: as)) (hv : iv_O (ly_P rm st :: ls) s) : an_H b (d + 1) ((2 * a + 1) :: as) (ly_P rm st :: ls) s := by
  intro n r fr len f h hR hS hn0 hn hr hfp hl hl2
  have ea : (2 * a + 1) / 2 = a := by omega
  have ew : (2 * a + 1) % 2 = 1 := by omega
  have hra : ¬ FP b as r ∧ r ≠ a ∧ (1 = 1 → r ≠ a + 1) := by have w := fp_up hk hfp; rw [ea, ew] at w; exact w
  have hfa : ¬ FP b as a ∧ ¬ FP b as (a + 1) := by have w := fp_a hk; rw [ea] at w; exact w
  have hRC := hR.1.1
  rw [ea] at hRC
  obtain ⟨fb, c0, c1, c2⟩ := hRC
  have hra : ¬ FP b as r ∧ r ≠ a ∧ r ≠ a + 1 := ⟨hra.1, hra.2.1, hra.2.2 rfl⟩
  obtain ⟨o1, o2, o3, o4⟩ := hv.1
  rw [show hd_N2 b ((2 * a + 1) :: as) = a from ea, v_answer]
  simp only [tg_O, c0, if_true, if_false, Nat.reduceEqDiff]
  rw [f_Psh_answer, rq_cons]
  simp only [fd_I, fd_V, fd_A, pt_V, pt_Z, ar_I, ar_Z, ar_R, as_I, as_Z, cp_I, ln_A, ck_T, tg_O, hp_2, List.contains_cons, List.contains_nil, List.getElem?_cons_zero, List.getElem?_cons_succ, List.set_cons_succ, List.set_cons_zero, List.length_cons, List.length_nil, Option.bind_some, Option.bind_none, Nat.reduceLT, Nat.reduceAdd, Nat.reduceBEq, BEq.rfl, beq_self_eq_true, Bool.or_false, Bool.or_true, Bool.true_or, Bool.false_or, decide_true, decide_false, Bool.not_false, Bool.not_true, Nat.zero_lt_succ, Nat.lt_add_left_iff_pos, Nat.succ_ne_self, ne_eq, not_false_eq_true, eq_self, if_true, if_false, ite_true, ite_false, bd_I, bd_V, bd_A, bd_L, re_I, re_V, Bool.true_and, Bool.and_true, reduceIte, reduceCtorEq, ↓reduceIte, Nat.reduceEqDiff, c0]
  match st, c0, c2, o3, o4, hv with
  | [], c0, c2, o3, o4, hv =>
    simp only [List.length_nil, show (ni 0 = 0) = True by decide, if_true, an_L, be_L]
    obtain ⟨h1, f1, e1, e2, e3, e4, e5, e6, e7, e8⟩ := ih n r fr len f h hR.2 hS hn0 hn hr hra.1 hl hl2
    have q0 := e8 a hfa.1 (fun e => hra.2.1 e.symm)
    have q1 := e8 (a + 1) hfa.2 (fun e => hra.2.2 e.symm)
    simp only [e1, eq_self, if_true, if_false, ite_true, ite_false, bd_I, bd_V, bd_A, bd_L, re_I, re_V, Bool.true_and, Bool.and_true, reduceIte, reduceCtorEq, ↓reduceIte, Nat.reduceEqDiff]
    generalize rq ls n s = z at *
    obtain ⟨z, ls1, s1⟩ := z
    have hC : RC (hd_N2 b as) a h1 (ly_P rm []) := ⟨fb, by rw [q0]; exact c0, by rw [q1]; exact c1, c2⟩
    cases z with
    | none => exact an_fin (h1 := h1) (h2 := h1) hk hfp ea ew rfl hC (fun q _ _ _ => rfl) e4 e5 e6 e7 e2 e3 (fun q p _ _ p2 => e8 q p p2)
    | some bs => exact an_fin (h1 := h1) (h2 := h1) hk hfp ea ew rfl hC (fun q _ _ _ => rfl) e4 e5 e6 e7 e2 e3 (fun q p _ _ p2 => e8 q p p2)
  | x :: st, c0, c2, o3, o4, hv =>
    simp only [an_L]
    generalize hs : x :: st = ss at *
    have hp : 1 ≤ ss.length := by rw [← hs]; simp
    have n0 : ¬ (ni ss.length = 0) := niNE (b := 0) (by omega) (by omega) (by omega)
    simp only [n0, if_false, mn_I (show ss.length < 2147483648 by omega) (show n < 2147483648 by omega)]
    have hm : min n ss.length = (ss.take n).length := by rw [List.length_take]
    have hmd : (ss.drop n) = ss.drop (min n ss.length) := by
      by_cases hc : ss.length ≤ n
      · rw [List.drop_of_length_le hc, List.drop_of_length_le (by omega)]
      · rw [show min n ss.length = n by omega]
    have hmt : (ss.take n) = ss.take (min n ss.length) := by
      by_cases hc : ss.length ≤ n
      · rw [List.take_of_length_le hc, List.take_of_length_le (by omega)]
      · rw [show min n ss.length = n by omega]
    obtain ⟨h2, f2, q1, q2, q3, q4, q5, q6, q7, q8⟩ := C_psh (v_answer d) a (hd_N2 b as) r fr len rm fb hra.2.1 hra.2.2 hl2 o2 (min n ss.length) 0 (min n ss.length) (fu_N - (min n ss.length) - 1) ss f h (by omega) (by omega) (by omega) o4 c2 c0 c1 hr
    rw [show fu_N - (min n ss.length) - 1 + (min n ss.length) + 1 = fu_N by simp only [fu_N]; omega, show ni 0 = 0 from rfl] at q1
    rw [q1]
    refine an_fin (h1 := h) (h2 := h2) (f2 := f2) hk hfp ea ew (by simp only [rc_I, hm]) ⟨fb, by rw [hmd]; exact q2, by rw [q8 _ (by omega) (fun e => hra.2.2 e.symm)]; exact c1, by rw [hmd]; exact q3⟩ (fun q p _ p2 => q8 q p p2) q4 (fun j hj => q6 j (by omega)) (fun cs hcs => ?_) q7 hR.2 hS (fun q _ _ _ _ => rfl)
    cases hcs
    rw [← hm, hmt]; exact q5
theorem B_forget (a bl : Nat) (rm fi k : Nat) (en mz ml : Int32) (mq : Option Nat) (ar : Nat) (h : Hs_t) (hb : fi + k ≤ 48) (hm : match mq with | none => mz = 0 | some l => mz = 1 ∧ ml = ni l ∧ l ≤ 32) (ha : h.2 a = some (ce_O 3 [.ref bl, .int (ni rm), .ref ar, .int (ni fi), .int (ni (fi + k)), .int en, .int mz, .int ml])) : ∃ h' mz' fi', f_Buf_forgetWhatNoMarkKeeps a h = re_V h' ∧ h'.2 a = some (ce_O 3 [.ref bl, .int (ni rm), .ref ar, .int (ni fi'), .int (ni (fi + k)), .int en, .int mz', .int ml]) ∧ h'.1 = h.1 ∧ (∀ q, q ≠ a → h'.2 q = h.2 q) ∧ (match mq with | none => fi' = fi + k ∧ mz' = 0 | some l => if l < k then fi' = fi + k ∧ mz' = 0 else fi' = fi ∧ mz' = 1) := by
  have z0 : is_Z 0 = true := by decide
  rw [f_Buf_forgetWhatNoMarkKeeps]
  simp only [fd_I, fd_V, fd_A, pt_V, pt_Z, ar_I, ar_Z, ar_R, as_I, as_Z, cp_I, ln_A, ck_T, tg_O, hp_2, List.contains_cons, List.contains_nil, List.getElem?_cons_zero, List.getElem?_cons_succ, List.set_cons_succ, List.set_cons_zero, List.length_cons, List.length_nil, Option.bind_some, Option.bind_none, Nat.reduceLT, Nat.reduceAdd, Nat.reduceBEq, BEq.rfl, beq_self_eq_true, Bool.or_false, Bool.or_true, Bool.true_or, Bool.false_or, decide_true, decide_false, Bool.not_false, Bool.not_true, Nat.zero_lt_succ, Nat.lt_add_left_iff_pos, Nat.succ_ne_self, ne_eq, not_false_eq_true, eq_self, if_true, if_false, ite_true, ite_false, bd_I, bd_V, bd_A, bd_L, re_I, re_V, Bool.true_and, Bool.and_true, reduceIte, reduceCtorEq, ↓reduceIte, Nat.reduceEqDiff, ha, ni_sub2, f_Buf_forgetWhatNoMarkKeeps_b21, f_Buf_forgetWhatNoMarkKeeps_b36, z0]
  cases mq with
  | none =>
    have hm : mz = 0 := hm
    subst hm
    simp only [if_true]
    split
    · exact ⟨_, _, _, rfl, hp_at _ _ _, rfl, fun q hq => hp_ne _ _ _ _ hq, rfl, rfl⟩
    · exact ⟨_, _, _, rfl, hp_at _ _ _, rfl, fun q hq => by rw [hp_ne _ _ _ _ hq, hp_ne _ _ _ _ hq], rfl, rfl⟩
  | some l =>
    obtain ⟨m1, m2, m3⟩ := hm
    subst m1; subst m2
    by_cases hl : l < k
    · rw [if_neg (niNL (by omega) (by omega) hl)]
      simp only [if_pos hl]
      exact ⟨_, _, _, rfl, hp_at _ _ _, rfl, fun q hq => by rw [hp_ne _ _ _ _ hq, hp_ne _ _ _ _ hq], rfl, rfl⟩
    · rw [if_pos (niL (by omega) (by omega) (by omega)), if_neg (by decide)]
      simp only [if_neg hl]
      exact ⟨h, 1, fi, rfl, ha, rfl, fun _ _ => rfl, rfl, rfl⟩
theorem B_b57 (W : Nat → Int32 → Nat → Int32 → Hs_t → Rs_t) (a bl r fr len n rm : Nat) (kp tg : List Int32) (mq : Option Nat) (f : Nat → Int32) (h : Hs_t) (hO : ly_O (ly_B rm kp tg mq)) (hR : RC bl a h (ly_B rm kp tg mq)) (hn : n ≤ 120) (hr : h.2 r = some (ce_I len f)) (hra : r ≠ a) (hra1 : r ≠ a + 1) (hl : fr + n ≤ len) (hl2 : len ≤ 120) : ∃ h' f', f_Buf_answer_b57 W a (ni n) r (ni fr) h = re_I (ni (tg.take n).length) h' ∧ RC bl a h' (gv_B rm kp tg mq n) ∧ h'.2 r = some (ce_I len f') ∧ (∀ j, j < fr → f' j = f j) ∧ sl f' fr (tg.take n).length = tg.take n ∧ h'.1 = h.1 ∧ ∀ q, q ≠ a → q ≠ r → h'.2 q = h.2 q := by
  obtain ⟨fi, fk, mz, ml, c0, c1, c2, c3, c4, c5⟩ := hR
  obtain ⟨o1, o2, o3, o4, o5, o6⟩ := hO
  have hm : min n tg.length = (tg.take n).length := by rw [List.length_take]
  have hct : (tg.take n).length ≤ tg.length := by omega
  have hcn : (tg.take n).length ≤ n := by omega
  have htk : tg.take n = tg.take (tg.take n).length := by
    rw [← hm]
    by_cases hc : tg.length ≤ n
    · rw [List.take_of_length_le hc, List.take_of_length_le (by omega)]
    · rw [show min n tg.length = n by omega]
  have hdr : tg.drop n = tg.drop (tg.take n).length := by
    rw [← hm]
    by_cases hc : tg.length ≤ n
    · rw [List.drop_of_length_le hc, List.drop_of_length_le (by omega)]
    · rw [show min n tg.length = n by omega]
  have hdl : (tg.drop n).length = tg.length - (tg.take n).length := by rw [hdr, List.length_drop]
  rw [f_Buf_answer_b57]
  have e1 : ni (fi + kp.length + tg.length) - ni (fi + kp.length) = ni tg.length := ni_sub2 _ _
  generalize hcc : (tg.take n).length = c at *
  have n1 : (ni (fi + kp.length)).toNatClampNeg = fi + kp.length := ni_nat (by omega)
  have n2 : (ni fr).toNatClampNeg = fr := ni_nat (by omega)
  have n3 : (ni c).toNatClampNeg = c := ni_nat (by omega)
  simp only [fd_I, fd_V, fd_A, pt_V, pt_Z, ar_I, ar_Z, ar_R, as_I, as_Z, cp_I, ln_A, ck_T, tg_O, hp_2, List.contains_cons, List.contains_nil, List.getElem?_cons_zero, List.getElem?_cons_succ, List.set_cons_succ, List.set_cons_zero, List.length_cons, List.length_nil, Option.bind_some, Option.bind_none, Nat.reduceLT, Nat.reduceAdd, Nat.reduceBEq, BEq.rfl, beq_self_eq_true, Bool.or_false, Bool.or_true, Bool.true_or, Bool.false_or, decide_true, decide_false, Bool.not_false, Bool.not_true, Nat.zero_lt_succ, Nat.lt_add_left_iff_pos, Nat.succ_ne_self, ne_eq, not_false_eq_true, eq_self, if_true, if_false, ite_true, ite_false, bd_I, bd_V, bd_A, bd_L, re_I, re_V, Bool.true_and, Bool.and_true, reduceIte, reduceCtorEq, ↓reduceIte, Nat.reduceEqDiff, c0, c1, hr, e1, mn_I (show tg.length < 2147483648 by omega) (show n < 2147483648 by omega), hm, n1, n2, n3, ni_nn (show fi + kp.length < 2147483648 by omega), ni_nn (show fr < 2147483648 by omega), ni_nn (show c < 2147483648 by omega), show decide (fi + kp.length + c ≤ 32 + rm) = true from decide_eq_true (by omega), show decide (fr + c ≤ len) = true from decide_eq_true (by omega), if_neg (show ¬ a = r from fun e => hra e.symm), ni_add]
  have hsl : sl fk (fi + kp.length) c = tg.take n := by
    rw [htk]; conv => rhs; rw [← c3]
    rw [sl_take _ _ _ _ hct]
  have hsd : sl fk (fi + kp.length + c) (tg.length - c) = tg.drop n := by
    rw [hdr]; conv => rhs; rw [← c3]
    rw [sl_drop _ _ _ _ hct]
  obtain ⟨h', mz', fi', q1, q2, q3, q4, q5⟩ := B_forget a bl rm fi (kp.length + c) (ni (fi + kp.length + tg.length)) mz ml mq (a + 1) (hp_S (hp_S h r (ce_I len (va_cpy fk f (fi + kp.length) fr c))) a (ce_O 3 [.ref bl, .int (ni rm), .ref (a + 1), .int (ni fi), .int (ni (fi + (kp.length + c))), .int (ni (fi + kp.length + tg.length)), .int mz, .int ml])) (by omega) (by
    cases mq with
    | none => exact c5
    | some l => exact ⟨c5.1, c5.2, o6.1⟩) (hp_at _ _ _)
  rw [show fi + kp.length + c = fi + (kp.length + c) by omega]
  simp only [q1, eq_self, if_true, if_false, ite_true, ite_false, bd_I, bd_V, bd_A, bd_L, re_I, re_V, Bool.true_and, Bool.and_true, reduceIte, reduceCtorEq, ↓reduceIte, Nat.reduceEqDiff]
  refine ⟨h', va_cpy fk f (fi + kp.length) fr c, rfl, ?_, ?_, fun j hj => cpy_out _ _ _ _ _ _ (Or.inl hj), by rw [sl_cpy]; exact hsl, q3, fun q p1 p2 => by rw [q4 q p1, hp_ne _ _ _ _ p1, hp_ne _ _ _ _ p2]⟩
  · have k1 : h'.2 (a + 1) = some (ce_I (32 + rm) fk) := by rw [q4 _ (by omega), hp_ne _ _ _ _ (by omega), hp_ne _ _ _ _ (fun e => hra1 e.symm)]; exact c1
    cases mq with
    | none =>
      obtain ⟨p1, p2⟩ := q5
      have hk0 : kp = [] := o6
      refine ⟨fi', fk, mz', ml, ?_, k1, rfl, ?_, ?_, p2⟩
      · rw [q2, hdl]; simp only [List.length_nil, Nat.add_zero, p1]; rw [show fi + (kp.length + c) + (tg.length - c) = fi + kp.length + tg.length by omega]
      · rw [hdl, p1]; simp only [List.length_nil, Nat.add_zero]; rw [show fi + (kp.length + c) = fi + kp.length + c by omega]; exact hsd
      · rw [hdl, p1]; simp only [List.length_nil, Nat.add_zero]; omega
    | some l =>
      simp only [gv_B, List.length_append, hcc]
      by_cases hl : l < kp.length + c
      · simp only [if_pos hl] at q5 ⊢
        obtain ⟨p1, p2⟩ := q5
        refine ⟨fi', fk, mz', ml, ?_, k1, rfl, ?_, ?_, p2⟩
        · rw [q2, hdl]; simp only [List.length_nil, Nat.add_zero, p1]; rw [show fi + (kp.length + c) + (tg.length - c) = fi + kp.length + tg.length by omega]
        · rw [hdl, p1]; simp only [List.length_nil, Nat.add_zero]; rw [show fi + (kp.length + c) = fi + kp.length + c by omega]; exact hsd
        · rw [hdl, p1]; simp only [List.length_nil, Nat.add_zero]; omega
      · simp only [if_neg hl] at q5 ⊢
        obtain ⟨p1, p2⟩ := q5
        refine ⟨fi', fk, mz', ml, ?_, k1, ?_, ?_, ?_, p2, c5.2⟩
        · rw [q2, hdl, List.length_append, hcc, p1]; rw [show fi + (kp.length + c) + (tg.length - c) = fi + kp.length + tg.length by omega]
        · rw [List.length_append, hcc, p1, sl_app, c2, hsl]
        · rw [hdl, List.length_append, hcc, p1, ← Nat.add_assoc]; exact hsd
        · rw [hdl, List.length_append, hcc, p1]; omega
  · rw [q4 _ hra, hp_ne _ _ _ _ hra, hp_at]
