theorem ni_m {a : Nat} (ha : a < 2147483648) : ¬ (ni a = -1) := by
  intro e
  have := ni_nn ha
  rw [e] at this
  exact this (by decide)
theorem fp_up {b e : Nat} {as : List Nat} (hk : ok_A b (e :: as)) {q : Nat} (h : ¬ FP b (e :: as) q) : ¬ FP b as q ∧ q ≠ e / 2 ∧ (e % 2 = 1 → q ≠ e / 2 + 1) := by
  have h1 := tp_ge hk.2
  have h2 := hk.1
  refine ⟨fun w => h (w.elim Or.inl fun w => Or.inr ⟨w.1, by simp only [tp_N]; omega⟩), fun w => h (Or.inr ⟨by omega, by simp only [tp_N]; omega⟩), fun w2 w => h (Or.inr ⟨by omega, by simp only [tp_N]; omega⟩)⟩
theorem fp_a {b e : Nat} {as : List Nat} (hk : ok_A b (e :: as)) : ¬ FP b as (e / 2) ∧ ¬ FP b as (e / 2 + 1) := by
  have h1 := tp_ge hk.2
  have h2 := hk.1
  constructor <;> (rintro (w | w) <;> omega)
/-- the end of a layer's answer -/
theorem an_fin {b e a : Nat} {as : List Nat} {h h1 h2 : Hs_t} {r fr len : Nat} {f f2 : Nat → Int32} {F : Rs_t} {z : Option (List Int32)} {L2 : Ly_t} {ls1 : List Ly_t} {s1 : Sr_t} (hk : ok_A b (e :: as)) (hr : ¬ FP b (e :: as) r) (he : e / 2 = a) (hw : e % 2 = tw_L L2) (hF : F = re_I (rc_I z) h2) (hC : RC (hd_N2 b as) a h2 L2) (hq : ∀ q, q ≠ a → (e % 2 = 1 → q ≠ a + 1) → q ≠ r → h2.2 q = h1.2 q) (hr2 : h2.2 r = some (ce_I len f2)) (hf2 : ∀ j, j < fr → f2 j = f j) (hsl : ∀ bs, z = some bs → sl f2 fr bs.length = bs) (h21 : h2.1 = h.1) (hL1 : RLc b h1 as ls1) (hS1 : RSc b h1 s1) (hq1 : ∀ q, ¬ FP b as q → q ≠ a → (e % 2 = 1 → q ≠ a + 1) → q ≠ r → h1.2 q = h.2 q) : an_K b (e :: as) h r fr len f F (z, L2 :: ls1, s1) := by
  subst he
  have t1 := tp_ge hk.2
  have t2 := hk.1
  have hr' := fp_up hk hr
  refine ⟨h2, f2, hF, ⟨⟨hC, hw⟩, hL1.frame hk.2 fun q q1 q2 => hq q (by omega) (by omega) (fun e => hr'.1 (Or.inr ⟨by omega, by omega⟩))⟩, hS1.frame fun q q1 q2 => hq q (by omega) (by omega) (fun e => hr'.1 (Or.inl ⟨by omega, by omega⟩)), hr2, hf2, hsl, h21, fun q q1 q2 => ?_⟩
  have q3 := fp_up hk q1
  rw [hq q q3.2.1 q3.2.2 q2, hq1 q q3.1 q3.2.1 q3.2.2 q2]
def an_H (b d : Nat) (as : List Nat) (ls : List Ly_t) (s : Sr_t) : Prop := ∀ (n r fr len : Nat) (f : Nat → Int32) (h : Hs_t), RLc b h as ls → RSc b h s → 1 ≤ n → n ≤ 120 → h.2 r = some (ce_I len f) → ¬ FP b as r → fr + n ≤ len → len ≤ 120 → an_K b as h r fr len f (v_answer d (hd_N2 b as) (ni n) r (ni fr) h) (rq ls n s)
theorem L_lim (b a d : Nat) (as : List Nat) (lf lm : Nat) (ls : List Ly_t) (s : Sr_t) (ih : an_H b d as ls s) (hk : ok_A b (2 * a :: as)) (hv : iv_O (ly_M lf lm :: ls) s) : an_H b (d + 1) (2 * a :: as) (ly_M lf lm :: ls) s := by
  intro n r fr len f h hR hS hn0 hn hr hfp hl hl2
  have ea : (2 * a) / 2 = a := by omega
  have ew : (2 * a) % 2 = 0 := by omega
  have hra : ¬ FP b as r ∧ r ≠ a ∧ (0 = 1 → r ≠ a + 1) := by have w := fp_up hk hfp; rw [ea, ew] at w; exact w
  have hfa : ¬ FP b as a ∧ ¬ FP b as (a + 1) := by have w := fp_a hk; rw [ea] at w; exact w
  have hRC := hR.1.1
  rw [ea] at hRC
  have c0 : h.2 a = some (ce_O 5 [.ref (hd_N2 b as), .int (ni lf), .int (ni lm)]) := hRC
  have hO := hv.1.1
  rw [show hd_N2 b (2 * a :: as) = a from ea, v_answer]
  simp only [tg_O, c0, if_true, if_false, Nat.reduceEqDiff]
  rw [f_Lim_answer, rq_cons]
  simp only [fd_I, fd_V, fd_A, pt_V, pt_Z, ar_I, ar_Z, ar_R, as_I, as_Z, cp_I, ln_A, ck_T, tg_O, hp_2, List.contains_cons, List.contains_nil, List.getElem?_cons_zero, List.getElem?_cons_succ, List.set_cons_succ, List.set_cons_zero, List.length_cons, List.length_nil, Option.bind_some, Option.bind_none, Nat.reduceLT, Nat.reduceAdd, Nat.reduceBEq, BEq.rfl, beq_self_eq_true, Bool.or_false, Bool.or_true, Bool.true_or, Bool.false_or, decide_true, decide_false, Bool.not_false, Bool.not_true, Nat.zero_lt_succ, Nat.lt_add_left_iff_pos, Nat.succ_ne_self, ne_eq, not_false_eq_true, eq_self, if_true, if_false, ite_true, ite_false, bd_I, bd_V, bd_A, bd_L, re_I, re_V, Bool.true_and, Bool.and_true, reduceIte, reduceCtorEq, ↓reduceIte, Nat.reduceEqDiff, c0]
  match lf, c0, hR, hv, hO with
  | 0, c0, hR, hv, hO =>
    simp only [show (ni 0 = 0) = True by decide, if_true, an_L]
    exact an_fin (h1 := h) hk hfp ea ew rfl hRC (fun q _ _ _ => rfl) hr (fun _ _ => rfl) (fun bs e => by cases e; rfl) rfl hR.2 hS (fun q _ _ _ _ => rfl)
  | lf + 1, c0, hR, hv, hO =>
    have c1 : ¬ (ni (lf + 1) = 0) := niNE (b := 0) (by omega) (by omega) (by omega)
    simp only [c1, if_false, an_L, be_L, mn_I (show lf + 1 < 2147483648 by omega) (show n < 2147483648 by omega)]
    obtain ⟨h1, f1, e1, e2, e3, e4, e5, e6, e7, e8⟩ := ih (min n (lf + 1)) r fr len f h hR.2 hS (by omega) (by omega) hr hra.1 (by omega) hl2
    have hK := rq_iv ls (min n (lf + 1)) s (by omega) hv.2.2
    have c2 : h1.2 a = some (ce_O 5 [.ref (hd_N2 b as), .int (ni (lf + 1)), .int (ni lm)]) := by rw [e8 a hfa.1 (fun e => hra.2.1 e.symm)]; exact c0
    simp only [e1, eq_self, if_true, if_false, ite_true, ite_false, bd_I, bd_V, bd_A, bd_L, re_I, re_V, Bool.true_and, Bool.and_true, reduceIte, reduceCtorEq, ↓reduceIte, Nat.reduceEqDiff]
    generalize rq ls (min n (lf + 1)) s = z at *
    obtain ⟨z, ls1, s1⟩ := z
    cases z with
    | none =>
      simp only [rc_I, if_true, f_Lim_answer_b45]
      exact an_fin (h1 := h1) (h2 := h1) hk hfp ea ew rfl (show RC _ _ _ (ly_M (lf + 1) lm) from c2) (fun q _ _ _ => rfl) e4 e5 e6 e7 e2 e3 (fun q p _ _ p2 => e8 q p p2)
    | some bs =>
      have hb := (hK.2.2.2.2.2.2.2.2 bs rfl).1
      have hbl : bs.length ≤ lf + 1 := by omega
      simp only [rc_I, ni_m (show bs.length < 2147483648 by omega), if_false, f_Lim_answer_b45, fd_I, fd_V, fd_A, pt_V, pt_Z, ar_I, ar_Z, ar_R, as_I, as_Z, cp_I, ln_A, ck_T, tg_O, hp_2, List.contains_cons, List.contains_nil, List.getElem?_cons_zero, List.getElem?_cons_succ, List.set_cons_succ, List.set_cons_zero, List.length_cons, List.length_nil, Option.bind_some, Option.bind_none, Nat.reduceLT, Nat.reduceAdd, Nat.reduceBEq, BEq.rfl, beq_self_eq_true, Bool.or_false, Bool.or_true, Bool.true_or, Bool.false_or, decide_true, decide_false, Bool.not_false, Bool.not_true, Nat.zero_lt_succ, Nat.lt_add_left_iff_pos, Nat.succ_ne_self, ne_eq, not_false_eq_true, eq_self, if_true, if_false, ite_true, ite_false, bd_I, bd_V, bd_A, bd_L, re_I, re_V, Bool.true_and, Bool.and_true, reduceIte, reduceCtorEq, ↓reduceIte, Nat.reduceEqDiff, c2, ni_sub hbl, ps_L]
      exact an_fin (h1 := h1) (f2 := f1) hk hfp ea ew rfl (show RC _ _ _ (ly_M (lf + 1 - bs.length) lm) from hp_at _ _ _) (fun q p _ _ => hp_ne _ _ _ _ p) (by rw [hp_ne _ _ _ _ hra.2.1]; exact e4) e5 e6 e7 e2 e3 (fun q p _ _ p2 => e8 q p p2)
theorem C_cod (W : Nat → Int32 → Nat → Int32 → Hs_t → Rs_t) (a bl r fr len : Nat) (key cm : Int32) (hra : r ≠ a) (hl2 : len ≤ 120) (d : Nat) : ∀ (i c k : Nat) (cd : Int32) (f : Nat → Int32) (h : Hs_t), i + d = c → fr + c ≤ len → h.2 a = some (ce_O 6 [.ref bl, .int key, .int cd, .int cm]) → h.2 r = some (ce_I len f) → ∃ h' f', f_Cod_answer_b15 W (k + d + 1) a r (ni fr) (ni c) (ni i) h = re_I (ni c) h' ∧ h'.2 a = some (ce_O 6 [.ref bl, .int key, .int (cd + ni d), .int cm]) ∧ h'.2 r = some (ce_I len f') ∧ sl f' (fr + i) d = cd_N key cd (sl f (fr + i) d) ∧ (∀ j, j < fr + i → f' j = f j) ∧ h'.1 = h.1 ∧ ∀ q, q ≠ a → q ≠ r → h'.2 q = h.2 q := by
  induction d with
  | zero =>
    intro i c k cd f h hi hc ha hr
    rw [f_Cod_answer_b15, if_pos (niL (by omega) (by omega) (by omega))]
    exact ⟨h, f, rfl, by rw [ha]; rw [show ni 0 = 0 from rfl, Int32.add_zero], hr, rfl, fun _ _ => rfl, rfl, fun _ _ _ => rfl⟩
  | succ d ih =>
    intro i c k cd f h hi hc ha hr
    have h4 : in_R (ni (fr + i)) len = true := ni_in_t (by omega) (by omega)
    have h6 : (ni (fr + i)).toNatClampNeg = fr + i := ni_nat (by omega)
    rw [show k + (d + 1) + 1 = (k + d + 1) + 1 by omega, f_Cod_answer_b15, if_neg (niNL (by omega) (by omega) (by omega))]
    simp only [fd_I, fd_V, fd_A, pt_V, pt_Z, ar_I, ar_Z, ar_R, as_I, as_Z, cp_I, ln_A, ck_T, tg_O, hp_2, List.contains_cons, List.contains_nil, List.getElem?_cons_zero, List.getElem?_cons_succ, List.set_cons_succ, List.set_cons_zero, List.length_cons, List.length_nil, Option.bind_some, Option.bind_none, Nat.reduceLT, Nat.reduceAdd, Nat.reduceBEq, BEq.rfl, beq_self_eq_true, Bool.or_false, Bool.or_true, Bool.true_or, Bool.false_or, decide_true, decide_false, Bool.not_false, Bool.not_true, Nat.zero_lt_succ, Nat.lt_add_left_iff_pos, Nat.succ_ne_self, ne_eq, not_false_eq_true, eq_self, if_true, if_false, ite_true, ite_false, bd_I, bd_V, bd_A, bd_L, re_I, re_V, Bool.true_and, Bool.and_true, reduceIte, reduceCtorEq, ↓reduceIte, Nat.reduceEqDiff, ha, hr, ni_add, h4, h6, if_neg (show ¬ a = r from fun e => hra e.symm)]
    rw [ni_p1]
    obtain ⟨h', f', e1, e2, e3, e4, e5, e6, e7⟩ := ih (i + 1) c k (cd + 1) (upd f (fr + i) (f (fr + i) ^^^ ((key + cd) &&& 255))) (hp_S (hp_S h r (ce_I len (upd f (fr + i) (f (fr + i) ^^^ ((key + cd) &&& 255))))) a (ce_O 6 [.ref bl, .int key, .int (cd + 1), .int cm])) (by omega) hc (hp_at _ _ _) (by rw [hp_ne _ _ _ _ hra, hp_at])
    refine ⟨h', f', e1, ?_, e3, ?_, ?_, e6, ?_⟩
    · rw [e2, show ni (d + 1) = 1 + ni d by rw [ni_1, ni_add]; congr 1; omega, ← Int32.add_assoc]
    · simp only [sl, cd_N]
      have h0 := e5 (fr + i) (by omega)
      rw [h0, show fr + i + 1 = fr + (i + 1) by omega, e4, sl_upd _ _ _ _ _ (Or.inl (by omega))]
      simp [upd]
    · intro j hj
      rw [e5 j (by omega)]
      simp only [upd]; rw [if_neg (by omega)]
    · intro q q1 q2
      rw [e7 q q1 q2, hp_ne _ _ _ _ q1, hp_ne _ _ _ _ q2]
theorem L_cod (b a d : Nat) (as : List Nat) (key cd cm : Int32) (ls : List Ly_t) (s : Sr_t) (ih : an_H b d as ls s) (hk : ok_A b (2 * a :: as)) (hv : iv_O (ly_C key cd cm :: ls) s) : an_H b (d + 1) (2 * a :: as) (ly_C key cd cm :: ls) s := by
  intro n r fr len f h hR hS hn0 hn hr hfp hl hl2
  have ea : (2 * a) / 2 = a := by omega
  have ew : (2 * a) % 2 = 0 := by omega
  have hra : ¬ FP b as r ∧ r ≠ a ∧ (0 = 1 → r ≠ a + 1) := by have w := fp_up hk hfp; rw [ea, ew] at w; exact w
  have hfa : ¬ FP b as a ∧ ¬ FP b as (a + 1) := by have w := fp_a hk; rw [ea] at w; exact w
  have hRC := hR.1.1
  rw [ea] at hRC
  have c0 : h.2 a = some (ce_O 6 [.ref (hd_N2 b as), .int key, .int cd, .int cm]) := hRC
  rw [show hd_N2 b (2 * a :: as) = a from ea, v_answer]
  simp only [tg_O, c0, if_true, if_false, Nat.reduceEqDiff]
  rw [f_Cod_answer, rq_cons]
  simp only [fd_I, fd_V, fd_A, pt_V, pt_Z, ar_I, ar_Z, ar_R, as_I, as_Z, cp_I, ln_A, ck_T, tg_O, hp_2, List.contains_cons, List.contains_nil, List.getElem?_cons_zero, List.getElem?_cons_succ, List.set_cons_succ, List.set_cons_zero, List.length_cons, List.length_nil, Option.bind_some, Option.bind_none, Nat.reduceLT, Nat.reduceAdd, Nat.reduceBEq, BEq.rfl, beq_self_eq_true, Bool.or_false, Bool.or_true, Bool.true_or, Bool.false_or, decide_true, decide_false, Bool.not_false, Bool.not_true, Nat.zero_lt_succ, Nat.lt_add_left_iff_pos, Nat.succ_ne_self, ne_eq, not_false_eq_true, eq_self, if_true, if_false, ite_true, ite_false, bd_I, bd_V, bd_A, bd_L, re_I, re_V, Bool.true_and, Bool.and_true, reduceIte, reduceCtorEq, ↓reduceIte, Nat.reduceEqDiff, c0, an_L, be_L]
  obtain ⟨h1, f1, e1, e2, e3, e4, e5, e6, e7, e8⟩ := ih n r fr len f h hR.2 hS hn0 hn hr hra.1 hl hl2
  have hK := rq_iv ls n s hn0 hv.2.2
  have c2 : h1.2 a = some (ce_O 6 [.ref (hd_N2 b as), .int key, .int cd, .int cm]) := by rw [e8 a hfa.1 (fun e => hra.2.1 e.symm)]; exact c0
  simp only [e1, eq_self, if_true, if_false, ite_true, ite_false, bd_I, bd_V, bd_A, bd_L, re_I, re_V, Bool.true_and, Bool.and_true, reduceIte, reduceCtorEq, ↓reduceIte, Nat.reduceEqDiff]
  generalize rq ls n s = z at *
  obtain ⟨z, ls1, s1⟩ := z
  cases z with
  | none =>
    rw [show fu_N = 1999 + 1 from rfl, f_Cod_answer_b15, if_pos (show rc_I ((none, ls1, s1) : Rq_t).1 ≤ 0 from (by decide : (-1 : Int32) ≤ 0))]
    exact an_fin (h1 := h1) (h2 := h1) hk hfp ea ew rfl (show RC _ _ _ (ly_C key cd cm) from c2) (fun q _ _ _ => rfl) e4 e5 e6 e7 e2 e3 (fun q p _ _ p2 => e8 q p p2)
  | some bs =>
    have hb := (hK.2.2.2.2.2.2.2.2 bs rfl).1
    obtain ⟨h2, f2, q1, q2, q3, q4, q5, q6, q7⟩ := C_cod (v_answer d) a (hd_N2 b as) r fr len key cm hra.2.1 hl2 bs.length 0 bs.length (fu_N - bs.length - 1) cd f1 h1 (by omega) (by omega) c2 e4
    rw [show fu_N - bs.length - 1 + bs.length + 1 = fu_N by simp only [fu_N]; omega, show ni 0 = 0 from rfl] at q1
    simp only [rc_I, q1, ps_L]
    rw [Nat.add_zero, e6 bs rfl] at q4
    refine an_fin (h1 := h1) (h2 := h2) (f2 := f2) hk hfp ea ew (by simp only [rc_I, cd_len]) (show RC _ _ _ (ly_C key (cd + ni bs.length) cm) from q2) (fun q p _ p2 => q7 q p p2) q3 (fun j hj => by rw [q5 j (by omega), e5 j hj]) (fun cs hcs => ?_) (by rw [q6, e7]) e2 e3 (fun q p _ _ p2 => e8 q p p2)
    cases hcs
    rw [cd_len]; exact q4
theorem C_lce (a bl : Nat) (e em cr crm x : Int32) (h : Hs_t) (hc : cr = 0 ∨ cr = 1) (ha : h.2 a = some (ce_O 7 [.ref bl, .int e, .int em, .int cr, .int crm])) : ∃ h', f_Lin_countLineEnd a x h = re_V h' ∧ h'.2 a = some (ce_O 7 [.ref bl, .int (ln_1 (e, cr) x).1, .int em, .int (ln_1 (e, cr) x).2, .int crm]) ∧ h'.1 = h.1 ∧ ∀ q, q ≠ a → h'.2 q = h.2 q := by
  have z0 : is_Z 0 = true := by decide
  have z1 : is_Z 1 = true := by decide
  have n13 : ¬ ((10 : Int32) = 13) := by decide
  rw [f_Lin_countLineEnd]
  by_cases b13 : x = 13
  · subst b13
    simp only [f_Lin_countLineEnd_b19, f_Lin_countLineEnd_b29, f_Lin_countLineEnd_b41, fd_I, fd_V, fd_A, pt_V, pt_Z, ar_I, ar_Z, ar_R, as_I, as_Z, cp_I, ln_A, ck_T, tg_O, hp_2, List.contains_cons, List.contains_nil, List.getElem?_cons_zero, List.getElem?_cons_succ, List.set_cons_succ, List.set_cons_zero, List.length_cons, List.length_nil, Option.bind_some, Option.bind_none, Nat.reduceLT, Nat.reduceAdd, Nat.reduceBEq, BEq.rfl, beq_self_eq_true, Bool.or_false, Bool.or_true, Bool.true_or, Bool.false_or, decide_true, decide_false, Bool.not_false, Bool.not_true, Nat.zero_lt_succ, Nat.lt_add_left_iff_pos, Nat.succ_ne_self, ne_eq, not_false_eq_true, eq_self, if_true, if_false, ite_true, ite_false, bd_I, bd_V, bd_A, bd_L, re_I, re_V, Bool.true_and, Bool.and_true, reduceIte, reduceCtorEq, ↓reduceIte, Nat.reduceEqDiff, ha, z1, ln_1, true_or]
    exact ⟨_, rfl, hp_at _ _ _, rfl, fun q hq => by rw [hp_ne _ _ _ _ hq, hp_ne _ _ _ _ hq]⟩
  · by_cases b10 : x = 10
    · subst b10
      by_cases hcr : cr = 0
      · subst hcr
        simp only [f_Lin_countLineEnd_b19, f_Lin_countLineEnd_b29, f_Lin_countLineEnd_b41, fd_I, fd_V, fd_A, pt_V, pt_Z, ar_I, ar_Z, ar_R, as_I, as_Z, cp_I, ln_A, ck_T, tg_O, hp_2, List.contains_cons, List.contains_nil, List.getElem?_cons_zero, List.getElem?_cons_succ, List.set_cons_succ, List.set_cons_zero, List.length_cons, List.length_nil, Option.bind_some, Option.bind_none, Nat.reduceLT, Nat.reduceAdd, Nat.reduceBEq, BEq.rfl, beq_self_eq_true, Bool.or_false, Bool.or_true, Bool.true_or, Bool.false_or, decide_true, decide_false, Bool.not_false, Bool.not_true, Nat.zero_lt_succ, Nat.lt_add_left_iff_pos, Nat.succ_ne_self, ne_eq, not_false_eq_true, eq_self, if_true, if_false, ite_true, ite_false, bd_I, bd_V, bd_A, bd_L, re_I, re_V, Bool.true_and, Bool.and_true, reduceIte, reduceCtorEq, ↓reduceIte, Nat.reduceEqDiff, ha, z0, ln_1, n13, and_self, or_true]
        exact ⟨_, rfl, hp_at _ _ _, rfl, fun q hq => by rw [hp_ne _ _ _ _ hq, hp_ne _ _ _ _ hq]⟩
      · simp only [f_Lin_countLineEnd_b19, f_Lin_countLineEnd_b29, f_Lin_countLineEnd_b41, fd_I, fd_V, fd_A, pt_V, pt_Z, ar_I, ar_Z, ar_R, as_I, as_Z, cp_I, ln_A, ck_T, tg_O, hp_2, List.contains_cons, List.contains_nil, List.getElem?_cons_zero, List.getElem?_cons_succ, List.set_cons_succ, List.set_cons_zero, List.length_cons, List.length_nil, Option.bind_some, Option.bind_none, Nat.reduceLT, Nat.reduceAdd, Nat.reduceBEq, BEq.rfl, beq_self_eq_true, Bool.or_false, Bool.or_true, Bool.true_or, Bool.false_or, decide_true, decide_false, Bool.not_false, Bool.not_true, Nat.zero_lt_succ, Nat.lt_add_left_iff_pos, Nat.succ_ne_self, ne_eq, not_false_eq_true, eq_self, if_true, if_false, ite_true, ite_false, bd_I, bd_V, bd_A, bd_L, re_I, re_V, Bool.true_and, Bool.and_true, reduceIte, reduceCtorEq, ↓reduceIte, Nat.reduceEqDiff, ha, z0, ln_1, n13, hcr, and_false, or_self]
        exact ⟨_, rfl, hp_at _ _ _, rfl, fun q hq => by rw [hp_ne _ _ _ _ hq]⟩
    · simp only [f_Lin_countLineEnd_b19, f_Lin_countLineEnd_b29, f_Lin_countLineEnd_b41, fd_I, fd_V, fd_A, pt_V, pt_Z, ar_I, ar_Z, ar_R, as_I, as_Z, cp_I, ln_A, ck_T, tg_O, hp_2, List.contains_cons, List.contains_nil, List.getElem?_cons_zero, List.getElem?_cons_succ, List.set_cons_succ, List.set_cons_zero, List.length_cons, List.length_nil, Option.bind_some, Option.bind_none, Nat.reduceLT, Nat.reduceAdd, Nat.reduceBEq, BEq.rfl, beq_self_eq_true, Bool.or_false, Bool.or_true, Bool.true_or, Bool.false_or, decide_true, decide_false, Bool.not_false, Bool.not_true, Nat.zero_lt_succ, Nat.lt_add_left_iff_pos, Nat.succ_ne_self, ne_eq, not_false_eq_true, eq_self, if_true, if_false, ite_true, ite_false, bd_I, bd_V, bd_A, bd_L, re_I, re_V, Bool.true_and, Bool.and_true, reduceIte, reduceCtorEq, ↓reduceIte, Nat.reduceEqDiff, ha, z0, ln_1, b13, b10, false_and, or_self]
      exact ⟨_, rfl, hp_at _ _ _, rfl, fun q hq => by rw [hp_ne _ _ _ _ hq]⟩
theorem C_lin (W : Nat → Int32 → Nat → Int32 → Hs_t → Rs_t) (a bl r fr len : Nat) (em crm : Int32) (hra : r ≠ a) (hl2 : len ≤ 120) (f : Nat → Int32) (d : Nat) : ∀ (i c k : Nat) (e cr : Int32) (h : Hs_t), (cr = 0 ∨ cr = 1) → i + d = c → fr + c ≤ len → h.2 a = some (ce_O 7 [.ref bl, .int e, .int em, .int cr, .int crm]) → h.2 r = some (ce_I len f) → ∃ h', f_Lin_answer_b15 W (k + d + 1) a r (ni fr) (ni c) (ni i) h = re_I (ni c) h' ∧ h'.2 a = some (ce_O 7 [.ref bl, .int ((sl f (fr + i) d).foldl ln_1 (e, cr)).1, .int em, .int ((sl f (fr + i) d).foldl ln_1 (e, cr)).2, .int crm]) ∧ h'.1 = h.1 ∧ ∀ q, q ≠ a → h'.2 q = h.2 q := by
  induction d with
  | zero =>
    intro i c k e cr h hz hi hc ha hr
    rw [f_Lin_answer_b15, if_pos (niL (by omega) (by omega) (by omega))]
    exact ⟨h, rfl, ha, rfl, fun _ _ => rfl⟩
  | succ d ih =>
    intro i c k e cr h hz hi hc ha hr
    have h4 : in_R (ni (fr + i)) len = true := ni_in_t (by omega) (by omega)
    have h6 : (ni (fr + i)).toNatClampNeg = fr + i := ni_nat (by omega)
    rw [show k + (d + 1) + 1 = (k + d + 1) + 1 by omega, f_Lin_answer_b15, if_neg (niNL (by omega) (by omega) (by omega))]
    obtain ⟨h1, e1, e2, e3, e4⟩ := C_lce a bl e em cr crm (f (fr + i)) h hz ha
    simp only [fd_I, fd_V, fd_A, pt_V, pt_Z, ar_I, ar_Z, ar_R, as_I, as_Z, cp_I, ln_A, ck_T, tg_O, hp_2, List.contains_cons, List.contains_nil, List.getElem?_cons_zero, List.getElem?_cons_succ, List.set_cons_succ, List.set_cons_zero, List.length_cons, List.length_nil, Option.bind_some, Option.bind_none, Nat.reduceLT, Nat.reduceAdd, Nat.reduceBEq, BEq.rfl, beq_self_eq_true, Bool.or_false, Bool.or_true, Bool.true_or, Bool.false_or, decide_true, decide_false, Bool.not_false, Bool.not_true, Nat.zero_lt_succ, Nat.lt_add_left_iff_pos, Nat.succ_ne_self, ne_eq, not_false_eq_true, eq_self, if_true, if_false, ite_true, ite_false, bd_I, bd_V, bd_A, bd_L, re_I, re_V, Bool.true_and, Bool.and_true, reduceIte, reduceCtorEq, ↓reduceIte, Nat.reduceEqDiff, ha, hr, ni_add, h4, h6, e1]
    rw [ni_p1]
    obtain ⟨h', q1, q2, q3, q4⟩ := ih (i + 1) c k _ _ h1 (by
      have := ln_01 [f (fr + i)] (e, cr) hz
      exact this) (by omega) hc e2 (by rw [e4 r hra]; exact hr)
    exact ⟨h', q1, by rw [q2]; rfl, by rw [q3, e3], fun q hq => by rw [q4 q hq, e4 q hq]⟩
theorem L_lin (b a d : Nat) (as : List Nat) (e em cr crm : Int32) (ls : List Ly_t) (s : Sr_t) (ih : an_H b d as ls s) (hk : ok_A b (2 * a :: as)) (hv : iv_O (ly_N e em cr crm :: ls) s) : an_H b (d + 1) (2 * a :: as) (ly_N e em cr crm :: ls) s := by
  intro n r fr len f h hR hS hn0 hn hr hfp hl hl2
  have ea : (2 * a) / 2 = a := by omega
  have ew : (2 * a) % 2 = 0 := by omega
  have hra : ¬ FP b as r ∧ r ≠ a ∧ (0 = 1 → r ≠ a + 1) := by have w := fp_up hk hfp; rw [ea, ew] at w; exact w
  have hfa : ¬ FP b as a ∧ ¬ FP b as (a + 1) := by have w := fp_a hk; rw [ea] at w; exact w
  have hRC := hR.1.1
  rw [ea] at hRC
  have c0 : h.2 a = some (ce_O 7 [.ref (hd_N2 b as), .int e, .int em, .int cr, .int crm]) := hRC
  rw [show hd_N2 b (2 * a :: as) = a from ea, v_answer]
  simp only [tg_O, c0, if_true, if_false, Nat.reduceEqDiff]
  rw [f_Lin_answer, rq_cons]
  simp only [fd_I, fd_V, fd_A, pt_V, pt_Z, ar_I, ar_Z, ar_R, as_I, as_Z, cp_I, ln_A, ck_T, tg_O, hp_2, List.contains_cons, List.contains_nil, List.getElem?_cons_zero, List.getElem?_cons_succ, List.set_cons_succ, List.set_cons_zero, List.length_cons, List.length_nil, Option.bind_some, Option.bind_none, Nat.reduceLT, Nat.reduceAdd, Nat.reduceBEq, BEq.rfl, beq_self_eq_true, Bool.or_false, Bool.or_true, Bool.true_or, Bool.false_or, decide_true, decide_false, Bool.not_false, Bool.not_true, Nat.zero_lt_succ, Nat.lt_add_left_iff_pos, Nat.succ_ne_self, ne_eq, not_false_eq_true, eq_self, if_true, if_false, ite_true, ite_false, bd_I, bd_V, bd_A, bd_L, re_I, re_V, Bool.true_and, Bool.and_true, reduceIte, reduceCtorEq, ↓reduceIte, Nat.reduceEqDiff, c0, an_L, be_L]
  obtain ⟨h1, f1, e1, e2, e3, e4, e5, e6, e7, e8⟩ := ih n r fr len f h hR.2 hS hn0 hn hr hra.1 hl hl2
  have hK := rq_iv ls n s hn0 hv.2.2
  have c2 : h1.2 a = some (ce_O 7 [.ref (hd_N2 b as), .int e, .int em, .int cr, .int crm]) := by rw [e8 a hfa.1 (fun e => hra.2.1 e.symm)]; exact c0
  simp only [e1, eq_self, if_true, if_false, ite_true, ite_false, bd_I, bd_V, bd_A, bd_L, re_I, re_V, Bool.true_and, Bool.and_true, reduceIte, reduceCtorEq, ↓reduceIte, Nat.reduceEqDiff]
  generalize rq ls n s = z at *
  obtain ⟨z, ls1, s1⟩ := z
  cases z with
  | none =>
    rw [show fu_N = 1999 + 1 from rfl, f_Lin_answer_b15, if_pos (show rc_I ((none, ls1, s1) : Rq_t).1 ≤ 0 from (by decide : (-1 : Int32) ≤ 0))]
    exact an_fin (h1 := h1) (h2 := h1) hk hfp ea ew rfl (show RC _ _ _ (ly_N e em cr crm) from c2) (fun q _ _ _ => rfl) e4 e5 e6 e7 e2 e3 (fun q p _ _ p2 => e8 q p p2)
  | some bs =>
    have hb := (hK.2.2.2.2.2.2.2.2 bs rfl).1
    obtain ⟨h2, q1, q2, q6, q7⟩ := C_lin (v_answer d) a (hd_N2 b as) r fr len em crm hra.2.1 hl2 f1 bs.length 0 bs.length (fu_N - bs.length - 1) e cr h1 hv.1.1 (by omega) (by omega) c2 e4
    rw [show fu_N - bs.length - 1 + bs.length + 1 = fu_N by simp only [fu_N]; omega, show ni 0 = 0 from rfl] at q1
    simp only [rc_I, q1, ps_L]
    rw [Nat.add_zero, e6 bs rfl] at q2
    exact an_fin (h1 := h1) (h2 := h2) (f2 := f1) hk hfp ea ew rfl (show RC _ _ _ (ly_N _ em _ crm) from q2) (fun q p _ p2 => q7 q p) (by rw [q7 r hra.2.1]; exact e4) e5 e6 (by rw [q6, e7]) e2 e3 (fun q p _ _ p2 => e8 q p p2)
