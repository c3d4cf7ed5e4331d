def tn (bag : List Int32) : Nat := 256 * (bag.getD 0 0).toNatClampNeg + (bag.getD 1 0).toNatClampNeg
def op_text (w : Wd_t) : (Option Value ⊕ Nat) × Wd_t := match w with
  | (ls, s, lv, lvm, cl, _, lt) => if cl = 0 then (match fl 2 2 ls s lv [] with
    | (0, ls1, s1, lv1, bag1) => if tn bag1 ≤ 118 then (match fl (tn bag1) (tn bag1) ls1 s1 lv1 bag1 with
      | (0, ls2, s2, lv2, bag2) => if hj bag2 200 2 then (.inl (some (.int (ni (tl bag2 200 2 []).length))), (ls2, s2, lv2, lvm, cl, bag2, tl bag2 200 2 [])) else (.inr 9, (ls2, s2, lv2, lvm, cl, bag2, lt))
      | (c + 1, ls2, s2, lv2, bag2) => (.inr (10 + c), (ls2, s2, lv2, lvm, cl, bag2, lt))) else (.inr 9, (ls1, s1, lv1, lvm, cl, bag1, lt))
    | (c + 1, ls1, s1, lv1, bag1) => (.inr (10 + c), (ls1, s1, lv1, lvm, cl, bag1, lt))) else (.inr 10, (ls, s, lv, lvm, cl, [], lt))
theorem bag2 {bag : List Int32} (hl : bag.length = 2) (hb : by_A bag) : ∃ a c, a < 256 ∧ c < 256 ∧ bag.getD 0 0 = ni a ∧ bag.getD 1 0 = ni c ∧ tn bag = 256 * a + c := by
  match bag, hl with
  | [x, y], _ =>
    obtain ⟨a, ha, ea⟩ := hb x (by simp)
    obtain ⟨c, hc, ec⟩ := hb y (by simp)
    refine ⟨a, c, ha, hc, ea, ec, ?_⟩
    simp only [tn, List.getD_cons_zero, List.getD_cons_succ, ea, ec]
    rw [ni_nat (by omega), ni_nat (by omega)]
theorem T_text {b : Nat} {as : List Nat} {h : Hs_t} {w : Wd_t} (hT : RTw b as h w) (hv : wv_O w) : TR b h (f_T_text b h) (op_text w).1 (op_text w).2 := by
  obtain ⟨ls, s, lv, lvm, cl, bag, lt⟩ := w
  have hT : RT b as h ls s lv lvm cl bag lt := hT
  obtain ⟨v1, v2, v3, v4, v5, v6, v7, v8⟩ := hv
  rw [f_T_text, ck_0 hT, Option.bind_some]
  simp only [op_text]
  by_cases hc : cl = 0
  · obtain ⟨h1, e1, e2, e3⟩ := (T_start hT _).1 hc
    rw [e1, if_pos hc, ck_0 e2, Option.bind_some]
    have hA := T_readAll e2 e3 v1 v2 v3 (n := 2) (by omega) (by simp)
    have hK := fl_iv 2 2 ls s lv [] (Nat.le_refl _) v1 v3 by_nil
    rw [show f_T_readAll b 2 h1 = f_T_readAll b (ni 2) h1 from rfl]
    generalize fl 2 2 ls s lv [] = z at *
    match z, hA, hK with
    | (c + 1, ls1, s1, lv1, bag1), hA, hK =>
      obtain ⟨y, h2, as', q1, q2, q3, q4⟩ := hA
      rw [q1]
      exact ⟨y, h2, as', rfl, q2, q3, q4⟩
    | (0, ls1, s1, lv1, bag1), hA, hK =>
      obtain ⟨h2, q1, q2, q3⟩ := hA
      have hl : bag1.length = 2 := (hK.2.2.2.2.2.2 rfl).1
      have hby : by_A bag1 := hK.2.2.2.2.1
      have hlv1 : lv1 = 0 ∨ lv1 = 1 := hK.2.2.1
      have hL1 : ls1.length ≤ 5 := by rw [show ls1.length = ls.length from hK.2.1]; exact v2
      have hv1 : iv_O ls1 s1 := hK.1
      obtain ⟨a, c, ha, hcc, w0, w1, w2⟩ := bag2 hl hby
      have hnb := T_nb q2 (by omega) 2 (by omega) 2 0 (fu_N - 3) 0 (by omega)
      rw [show fu_N - 3 + 2 + 1 = fu_N from rfl] at hnb
      rw [q1]
      simp only [bd_V, re_V, ck_0 q2, Option.bind_some, f_T_numberInBag]
      rw [show f_T_numberInBag_b5 fu_N b 2 0 0 h2 = _ from hnb]
      simp only [bd_L, re_L, nb_2 bag1 a c ha hcc w0 w1, ← w2]
      have hle : (ni (tn bag1) ≤ 118) = (tn bag1 ≤ 118) := ni_le (b := 118) (by omega) (by omega)
      by_cases hn : tn bag1 ≤ 118
      · rw [if_pos (by rw [hle]; exact hn), if_pos hn]
        simp only [ck_0 q2, Option.bind_some]
        have hA2 := T_readAll q2 q3 hv1 hL1 hlv1 (n := tn bag1) (by omega) (by omega)
        have hK2 := fl_iv (tn bag1) (tn bag1) ls1 s1 lv1 bag1 (Nat.le_refl _) hv1 hlv1 hby
        generalize fl (tn bag1) (tn bag1) ls1 s1 lv1 bag1 = z2 at *
        match z2, hA2, hK2 with
        | (c + 1, ls2, s2, lv2, bag2), hA2, hK2 =>
          obtain ⟨y, h3, as', p1, p2, p3, p4⟩ := hA2
          rw [p1]
          exact ⟨y, h3, as', rfl, p2, p3, p4⟩
        | (0, ls2, s2, lv2, bag2), hA2, hK2 =>
          obtain ⟨h3, p1, p2, p3⟩ := hA2
          have hl2 : bag2.length = bag1.length + tn bag1 := (hK2.2.2.2.2.2.2 rfl).1
          have a1 := p2.1
          have a4 := p2.2.2.2.1
          obtain ⟨f8, a5, a5'⟩ := p2.2.2.2.2.1
          have a6 := p2.2.2.2.2.2.1
          obtain ⟨f10, a7, a7'⟩ := p2.2.2.2.2.2.2.1
          have hhj := T_hj a4 a5 a5' (by omega) 200 2 (fu_N - 201) (by omega) (by omega)
          rw [show fu_N - 201 + 200 + 1 = fu_N from rfl] at hhj
          rw [p1]
          simp only [fd_I, fd_V, fd_A, pt_V, pt_Z, ar_I, ar_Z, ar_R, as_I, as_Z, cp_I, ln_A, ck_T, tg_O, hp_2, List.contains_cons, List.contains_nil, List.getElem?_cons_zero, List.getElem?_cons_succ, List.set_cons_succ, List.set_cons_zero, List.length_cons, List.length_nil, Option.bind_some, Option.bind_none, Nat.reduceLT, Nat.reduceAdd, Nat.reduceBEq, BEq.rfl, beq_self_eq_true, Bool.or_false, Bool.or_true, Bool.true_or, Bool.false_or, decide_true, decide_false, Bool.not_false, Bool.not_true, Nat.zero_lt_succ, Nat.lt_add_left_iff_pos, Nat.succ_ne_self, ne_eq, not_false_eq_true, eq_self, if_true, if_false, ite_true, ite_false, bd_I, bd_V, bd_A, bd_L, re_I, re_V, Bool.true_and, Bool.and_true, reduceIte, reduceCtorEq, ↓reduceIte, Nat.reduceEqDiff, a1, f_T_holdsJustLetters]
          rw [show f_T_holdsJustLetters_b4 fu_N (b + 7) 2 h3 = _ from hhj]
          cases hj' : hj bag2 200 2 with
          | false =>
            simp only [bI, re_Z0, bd_I, if_true, Bool.false_eq_true, if_false]
            exact T_throw p2 p3 9
          | true =>
            simp only [bI, re_Z1, bd_I, show ((1 : Int32) = 0) = False by decide, if_false, if_true, a1, fd_I, fd_V, fd_A, pt_V, pt_Z, ar_I, ar_Z, ar_R, as_I, as_Z, cp_I, ln_A, ck_T, tg_O, hp_2, List.contains_cons, List.contains_nil, List.getElem?_cons_zero, List.getElem?_cons_succ, List.set_cons_succ, List.set_cons_zero, List.length_cons, List.length_nil, Option.bind_some, Option.bind_none, Nat.reduceLT, Nat.reduceAdd, Nat.reduceBEq, BEq.rfl, beq_self_eq_true, Bool.or_false, Bool.or_true, Bool.true_or, Bool.false_or, decide_true, decide_false, Bool.not_false, Bool.not_true, Nat.zero_lt_succ, Nat.lt_add_left_iff_pos, Nat.succ_ne_self, ne_eq, not_false_eq_true, eq_self, if_true, if_false, ite_true, ite_false, bd_I, bd_V, bd_A, bd_L, re_I, re_V, Bool.true_and, Bool.and_true, reduceIte, reduceCtorEq, ↓reduceIte, Nat.reduceEqDiff, f_T_takeLetters, a6, f_Row_clear]
            have hT4 : RT b as (hp_S h3 (b + 9) (ce_O 1 [.ref (b + 10), .int 0])) ls2 s2 lv2 lvm cl bag2 [] := RT.let (f := f10) p2 (hp_at _ _ _) (by rw [hp_ne _ _ _ _ (by omega)]; exact a7) rfl rfl (fun q w1 w2 => hp_ne _ _ _ _ w1)
            obtain ⟨h5, r1, r2, r3⟩ := T_tl b as ls2 s2 lv2 lvm cl bag2 (by omega) 200 2 (fu_N - 201) 1 [] _ hT4 hj' (by omega) (by omega) (by omega) (by omega) (by simp only [List.length_nil]; omega)
            rw [show fu_N - 201 + 200 + 1 = fu_N from rfl] at r1
            rw [show f_T_takeLetters_b11 fu_N b 1 2 (hp_S h3 (b + 9) (ce_O 1 [.ref (b + 10), .int 0])) = _ from r1]
            have c1 := r2.1
            have c6 := r2.2.2.2.2.2.1
            simp only [re_V, c1, c6, fd_I, fd_V, fd_A, pt_V, pt_Z, ar_I, ar_Z, ar_R, as_I, as_Z, cp_I, ln_A, ck_T, tg_O, hp_2, List.contains_cons, List.contains_nil, List.getElem?_cons_zero, List.getElem?_cons_succ, List.set_cons_succ, List.set_cons_zero, List.length_cons, List.length_nil, Option.bind_some, Option.bind_none, Nat.reduceLT, Nat.reduceAdd, Nat.reduceBEq, BEq.rfl, beq_self_eq_true, Bool.or_false, Bool.or_true, Bool.true_or, Bool.false_or, decide_true, decide_false, Bool.not_false, Bool.not_true, Nat.zero_lt_succ, Nat.lt_add_left_iff_pos, Nat.succ_ne_self, ne_eq, not_false_eq_true, eq_self, if_true, if_false, ite_true, ite_false, bd_I, bd_V, bd_A, bd_L, re_I, re_V, Bool.true_and, Bool.and_true, reduceIte, reduceCtorEq, ↓reduceIte, Nat.reduceEqDiff]
            exact ⟨h5, as, rfl, r2, (p3.trans (FK.set (Or.inl (by omega)))).trans r3⟩
      · rw [if_neg (by rw [hle]; exact hn), if_neg hn]
        exact T_throw q2 q3 9
  · rw [if_neg hc]
    exact (T_start hT _).2 hc
theorem M_text {m : Nat} {h : Hs_t} {g : Mg_t} {w : Wd_t} (hR : RWw g w) (hv : wv_O w) : MO m h (f_M_text m (MH m g h)) (op_text w).1 (fun t => if t = 10 then 1 else if t = 11 then 2 else 3) (some (.int 0)) (op_text w).2 := by
  obtain ⟨ls, s, lv, lvm, cl, bag, lt⟩ := w
  have hR : RW g ls s lv lvm cl bag lt := hR
  obtain ⟨v1, v2, v3, v4, v5, v6, v7, v8⟩ := hv
  have e21 : g.1 21 = cl := hR.2.2.2.1
  have hR0 := hR.clr
  rw [f_M_text]
  simp only [mI_0, mP_0, mI_4, mP_4, mI_5, mP_5, mI_6, mP_6, mI_20, mP_20, mI_21, mP_21, mI_22, mP_22, mI_23, mP_23, mI_25, mP_25, mI_27, mP_27, mR_1, mG_1, mS_1, mR_2, mG_2, mS_2, mR_3, mG_3, mS_3, mR_7, mG_7, mS_7, mR_8, mG_8, mS_8, mR_9, mG_9, mS_9, mR_10, mG_10, mS_10, mR_11, mG_11, mS_11, mR_12, mG_12, mS_12, mR_13, mG_13, mS_13, mR_14, mG_14, mS_14, mR_15, mG_15, mS_15, mR_16, mG_16, mS_16, mR_17, mG_17, mS_17, mR_18, mG_18, mS_18, mR_19, mG_19, mS_19, mR_24, mG_24, mS_24, mR_26, mG_26, mS_26, mK_8, gS_1, gS_2, gA_1, gA_2, Option.bind_some, Option.bind_none, eq_self, if_true, if_false, ite_true, ite_false, bd_I, bd_V, bd_A, bd_L, re_I, re_V, Bool.true_and, Bool.and_true, reduceIte, reduceCtorEq, ↓reduceIte, Nat.reduceEqDiff, e21, op_text]
  by_cases hc : cl = 0
  · simp only [hc, if_true]
    subst hc
    have hK := fl_iv 2 2 ls s lv [] (Nat.le_refl _) v1 v3 by_nil
    obtain ⟨g1, q1, q2, q3⟩ := M_fill (m := m) (h := h) hR0 v1 v2 v3 (n := 2) (by omega) (by simp)
    rw [show f_M_fill m 2 (MH m (gS g 25 0) h) = _ from q1]
    simp only [re_I]
    generalize fl 2 2 ls s lv [] = z at *
    match z, hK, q2 with
    | (1, ls1, s1, lv1, bag1), hK, q2 =>
      simp only [f_M_text_b22, mI_0, mP_0, mI_4, mP_4, mI_5, mP_5, mI_6, mP_6, mI_20, mP_20, mI_21, mP_21, mI_22, mP_22, mI_23, mP_23, mI_25, mP_25, mI_27, mP_27, mR_1, mG_1, mS_1, mR_2, mG_2, mS_2, mR_3, mG_3, mS_3, mR_7, mG_7, mS_7, mR_8, mG_8, mS_8, mR_9, mG_9, mS_9, mR_10, mG_10, mS_10, mR_11, mG_11, mS_11, mR_12, mG_12, mS_12, mR_13, mG_13, mS_13, mR_14, mG_14, mS_14, mR_15, mG_15, mS_15, mR_16, mG_16, mS_16, mR_17, mG_17, mS_17, mR_18, mG_18, mS_18, mR_19, mG_19, mS_19, mR_24, mG_24, mS_24, mR_26, mG_26, mS_26, mK_8, gS_1, gS_2, gA_1, gA_2, Option.bind_some, Option.bind_none, eq_self, if_true, if_false, ite_true, ite_false, bd_I, bd_V, bd_A, bd_L, re_I, re_V, Bool.true_and, Bool.and_true, reduceIte, reduceCtorEq, ↓reduceIte, Nat.reduceEqDiff, show ¬ (ni 1 ≤ 0) by decide]
      exact ⟨_, rfl, q2.cd (ni 1), rfl⟩
    | (2, ls1, s1, lv1, bag1), hK, q2 =>
      simp only [f_M_text_b22, mI_0, mP_0, mI_4, mP_4, mI_5, mP_5, mI_6, mP_6, mI_20, mP_20, mI_21, mP_21, mI_22, mP_22, mI_23, mP_23, mI_25, mP_25, mI_27, mP_27, mR_1, mG_1, mS_1, mR_2, mG_2, mS_2, mR_3, mG_3, mS_3, mR_7, mG_7, mS_7, mR_8, mG_8, mS_8, mR_9, mG_9, mS_9, mR_10, mG_10, mS_10, mR_11, mG_11, mS_11, mR_12, mG_12, mS_12, mR_13, mG_13, mS_13, mR_14, mG_14, mS_14, mR_15, mG_15, mS_15, mR_16, mG_16, mS_16, mR_17, mG_17, mS_17, mR_18, mG_18, mS_18, mR_19, mG_19, mS_19, mR_24, mG_24, mS_24, mR_26, mG_26, mS_26, mK_8, gS_1, gS_2, gA_1, gA_2, Option.bind_some, Option.bind_none, eq_self, if_true, if_false, ite_true, ite_false, bd_I, bd_V, bd_A, bd_L, re_I, re_V, Bool.true_and, Bool.and_true, reduceIte, reduceCtorEq, ↓reduceIte, Nat.reduceEqDiff, show ¬ (ni 2 ≤ 0) by decide]
      exact ⟨_, rfl, q2.cd (ni 2), rfl⟩
    | (c + 3, ls1, s1, lv1, bag1), hK, q2 => exact absurd hK.2.2.2.1 (by simp)
    | (0, ls1, s1, lv1, bag1), hK, q2 =>
      have q2 : RW g1 ls1 s1 lv1 lvm 0 bag1 lt := q2
      have hl : bag1.length = 2 := (hK.2.2.2.2.2.2 rfl).1
      have hby : by_A bag1 := hK.2.2.2.2.1
      have hlv1 : lv1 = 0 ∨ lv1 = 1 := hK.2.2.1
      have hL1 : ls1.length ≤ 5 := by rw [show ls1.length = ls.length from hK.2.1]; exact v2
      have hv1 : iv_O ls1 s1 := hK.1
      obtain ⟨a, c, ha, hcc, w0, w1, w2⟩ := bag2 hl hby
      have a8 := q2.2.2.2.2.2.2.2.1
      have b0 : g1.2 24 0 = ni a := by rw [bg_at a8 (by omega)]; exact w0
      have b1 : g1.2 24 1 = ni c := by rw [bg_at a8 (by omega)]; exact w1
      have e256 : (256 : Int32) * ni a + ni c = ni (tn bag1) := by
        rw [w2, ← ni_add]; congr 1
        show Int32.ofNat 256 * Int32.ofNat a = Int32.ofNat (256 * a)
        rw [Int32.ofNat_mul]
      simp only [f_M_text_b22, mI_0, mP_0, mI_4, mP_4, mI_5, mP_5, mI_6, mP_6, mI_20, mP_20, mI_21, mP_21, mI_22, mP_22, mI_23, mP_23, mI_25, mP_25, mI_27, mP_27, mR_1, mG_1, mS_1, mR_2, mG_2, mS_2, mR_3, mG_3, mS_3, mR_7, mG_7, mS_7, mR_8, mG_8, mS_8, mR_9, mG_9, mS_9, mR_10, mG_10, mS_10, mR_11, mG_11, mS_11, mR_12, mG_12, mS_12, mR_13, mG_13, mS_13, mR_14, mG_14, mS_14, mR_15, mG_15, mS_15, mR_16, mG_16, mS_16, mR_17, mG_17, mS_17, mR_18, mG_18, mS_18, mR_19, mG_19, mS_19, mR_24, mG_24, mS_24, mR_26, mG_26, mS_26, mK_8, gS_1, gS_2, gA_1, gA_2, Option.bind_some, Option.bind_none, eq_self, if_true, if_false, ite_true, ite_false, bd_I, bd_V, bd_A, bd_L, re_I, re_V, Bool.true_and, Bool.and_true, reduceIte, reduceCtorEq, ↓reduceIte, Nat.reduceEqDiff, show (ni 0 ≤ 0) = True by decide, show in_R 0 600 = true by decide, show in_R 1 600 = true by decide, show (0 : Int32).toNatClampNeg = 0 by decide, show (1 : Int32).toNatClampNeg = 1 by decide, b0, b1, e256]
      have hle : (ni (tn bag1) ≤ 118) = (tn bag1 ≤ 118) := ni_le (b := 118) (by omega) (by omega)
      by_cases hn : tn bag1 ≤ 118
      · rw [if_pos (by rw [hle]; exact hn), if_pos hn]
        have hK2 := fl_iv (tn bag1) (tn bag1) ls1 s1 lv1 bag1 (Nat.le_refl _) hv1 hlv1 hby
        obtain ⟨g2, p1, p2, p3⟩ := M_fill (m := m) (h := h) (q2.cd (ni 0)) hv1 hL1 hlv1 (n := tn bag1) (by omega) (by omega)
        simp only [p1, re_I]
        generalize fl (tn bag1) (tn bag1) ls1 s1 lv1 bag1 = z2 at *
        match z2, hK2, p2 with
        | (1, ls2, s2, lv2, bag2), hK2, p2 =>
          simp only [f_M_text_b68, mI_0, mP_0, mI_4, mP_4, mI_5, mP_5, mI_6, mP_6, mI_20, mP_20, mI_21, mP_21, mI_22, mP_22, mI_23, mP_23, mI_25, mP_25, mI_27, mP_27, mR_1, mG_1, mS_1, mR_2, mG_2, mS_2, mR_3, mG_3, mS_3, mR_7, mG_7, mS_7, mR_8, mG_8, mS_8, mR_9, mG_9, mS_9, mR_10, mG_10, mS_10, mR_11, mG_11, mS_11, mR_12, mG_12, mS_12, mR_13, mG_13, mS_13, mR_14, mG_14, mS_14, mR_15, mG_15, mS_15, mR_16, mG_16, mS_16, mR_17, mG_17, mS_17, mR_18, mG_18, mS_18, mR_19, mG_19, mS_19, mR_24, mG_24, mS_24, mR_26, mG_26, mS_26, mK_8, gS_1, gS_2, gA_1, gA_2, Option.bind_some, Option.bind_none, eq_self, if_true, if_false, ite_true, ite_false, bd_I, bd_V, bd_A, bd_L, re_I, re_V, Bool.true_and, Bool.and_true, reduceIte, reduceCtorEq, ↓reduceIte, Nat.reduceEqDiff, show ¬ (ni 1 ≤ 0) by decide]
          exact ⟨_, rfl, p2.cd (ni 1), rfl⟩
        | (2, ls2, s2, lv2, bag2), hK2, p2 =>
          simp only [f_M_text_b68, mI_0, mP_0, mI_4, mP_4, mI_5, mP_5, mI_6, mP_6, mI_20, mP_20, mI_21, mP_21, mI_22, mP_22, mI_23, mP_23, mI_25, mP_25, mI_27, mP_27, mR_1, mG_1, mS_1, mR_2, mG_2, mS_2, mR_3, mG_3, mS_3, mR_7, mG_7, mS_7, mR_8, mG_8, mS_8, mR_9, mG_9, mS_9, mR_10, mG_10, mS_10, mR_11, mG_11, mS_11, mR_12, mG_12, mS_12, mR_13, mG_13, mS_13, mR_14, mG_14, mS_14, mR_15, mG_15, mS_15, mR_16, mG_16, mS_16, mR_17, mG_17, mS_17, mR_18, mG_18, mS_18, mR_19, mG_19, mS_19, mR_24, mG_24, mS_24, mR_26, mG_26, mS_26, mK_8, gS_1, gS_2, gA_1, gA_2, Option.bind_some, Option.bind_none, eq_self, if_true, if_false, ite_true, ite_false, bd_I, bd_V, bd_A, bd_L, re_I, re_V, Bool.true_and, Bool.and_true, reduceIte, reduceCtorEq, ↓reduceIte, Nat.reduceEqDiff, show ¬ (ni 2 ≤ 0) by decide]
          exact ⟨_, rfl, p2.cd (ni 2), rfl⟩
        | (c + 3, ls2, s2, lv2, bag2), hK2, p2 => exact absurd hK2.2.2.2.1 (by simp)
        | (0, ls2, s2, lv2, bag2), hK2, p2 =>
          have p2 : RW g2 ls2 s2 lv2 lvm 0 bag2 lt := p2
          have hl2 : bag2.length = bag1.length + tn bag1 := (hK2.2.2.2.2.2.2 rfl).1
          have hR3 := p2.cd (ni 0)
          have hhj := M_hj (m := m) (h := h) hR3.2.2.2.2.2.2.1 hR3.2.2.2.2.2.2.2.1 (by omega) 200 2 (fu_N - 202) 1 (by omega) (by omega) (by omega) (by omega)
          rw [show fu_N - 202 + 200 + 2 = fu_N from rfl] at hhj
          simp only [f_M_text_b68, mI_0, mP_0, mI_4, mP_4, mI_5, mP_5, mI_6, mP_6, mI_20, mP_20, mI_21, mP_21, mI_22, mP_22, mI_23, mP_23, mI_25, mP_25, mI_27, mP_27, mR_1, mG_1, mS_1, mR_2, mG_2, mS_2, mR_3, mG_3, mS_3, mR_7, mG_7, mS_7, mR_8, mG_8, mS_8, mR_9, mG_9, mS_9, mR_10, mG_10, mS_10, mR_11, mG_11, mS_11, mR_12, mG_12, mS_12, mR_13, mG_13, mS_13, mR_14, mG_14, mS_14, mR_15, mG_15, mS_15, mR_16, mG_16, mS_16, mR_17, mG_17, mS_17, mR_18, mG_18, mS_18, mR_19, mG_19, mS_19, mR_24, mG_24, mS_24, mR_26, mG_26, mS_26, mK_8, gS_1, gS_2, gA_1, gA_2, Option.bind_some, Option.bind_none, eq_self, if_true, if_false, ite_true, ite_false, bd_I, bd_V, bd_A, bd_L, re_I, re_V, Bool.true_and, Bool.and_true, reduceIte, reduceCtorEq, ↓reduceIte, Nat.reduceEqDiff, show (ni 0 ≤ 0) = True by decide]
          rw [show f_M_text_b84 fu_N m 2 1 (MH m (gS g2 0 (ni 0)) h) = _ from hhj]
          cases hj' : hj bag2 200 2 with
          | false =>
            simp only [bI, f_M_text_b109, if_true, mI_0, mP_0, mI_4, mP_4, mI_5, mP_5, mI_6, mP_6, mI_20, mP_20, mI_21, mP_21, mI_22, mP_22, mI_23, mP_23, mI_25, mP_25, mI_27, mP_27, mR_1, mG_1, mS_1, mR_2, mG_2, mS_2, mR_3, mG_3, mS_3, mR_7, mG_7, mS_7, mR_8, mG_8, mS_8, mR_9, mG_9, mS_9, mR_10, mG_10, mS_10, mR_11, mG_11, mS_11, mR_12, mG_12, mS_12, mR_13, mG_13, mS_13, mR_14, mG_14, mS_14, mR_15, mG_15, mS_15, mR_16, mG_16, mS_16, mR_17, mG_17, mS_17, mR_18, mG_18, mS_18, mR_19, mG_19, mS_19, mR_24, mG_24, mS_24, mR_26, mG_26, mS_26, mK_8, gS_1, gS_2, gA_1, gA_2, Option.bind_some, Option.bind_none, eq_self, if_true, if_false, ite_true, ite_false, bd_I, bd_V, bd_A, bd_L, re_I, re_V, Bool.true_and, Bool.and_true, reduceIte, reduceCtorEq, ↓reduceIte, Nat.reduceEqDiff, Bool.false_eq_true]
            exact ⟨_, rfl, (p2.cd (ni 0)).cd 3, rfl⟩
          | true =>
            simp only [bI, f_M_text_b109, show ((1 : Int32) = 0) = False by decide, if_false, if_true, mI_0, mP_0, mI_4, mP_4, mI_5, mP_5, mI_6, mP_6, mI_20, mP_20, mI_21, mP_21, mI_22, mP_22, mI_23, mP_23, mI_25, mP_25, mI_27, mP_27, mR_1, mG_1, mS_1, mR_2, mG_2, mS_2, mR_3, mG_3, mS_3, mR_7, mG_7, mS_7, mR_8, mG_8, mS_8, mR_9, mG_9, mS_9, mR_10, mG_10, mS_10, mR_11, mG_11, mS_11, mR_12, mG_12, mS_12, mR_13, mG_13, mS_13, mR_14, mG_14, mS_14, mR_15, mG_15, mS_15, mR_16, mG_16, mS_16, mR_17, mG_17, mS_17, mR_18, mG_18, mS_18, mR_19, mG_19, mS_19, mR_24, mG_24, mS_24, mR_26, mG_26, mS_26, mK_8, gS_1, gS_2, gA_1, gA_2, Option.bind_some, Option.bind_none, eq_self, if_true, if_false, ite_true, ite_false, bd_I, bd_V, bd_A, bd_L, re_I, re_V, Bool.true_and, Bool.and_true, reduceIte, reduceCtorEq, ↓reduceIte, Nat.reduceEqDiff]
            have hR4 : RW (gS (gS g2 0 (ni 0)) 27 0) ls2 s2 lv2 lvm 0 bag2 [] := by
              obtain ⟨b1, b2, b3, b4, b5, b6, b7, b8, b9, b10⟩ := hR3
              exact ⟨RMl.congr (g := gS g2 0 (ni 0)) (g' := gS (gS g2 0 (ni 0)) 27 0) (fun k _ _ => rfl) b1, b2, b3, b4, b5, b6, b7, b8, rfl, rfl⟩
            obtain ⟨g5, r1, r2, r3⟩ := M_tl m h ls2 s2 lv2 lvm 0 bag2 (by omega) 200 2 (fu_N - 201) [] _ hR4 hj' (by omega) (by omega) (by simp only [List.length_nil]; omega)
            rw [show fu_N - 201 + 200 + 1 = fu_N from rfl] at r1
            rw [show f_M_text_b127 fu_N m 2 (MH m (gS (gS g2 0 (ni 0)) 27 0) h) = _ from r1]
            exact ⟨g5, rfl, r2, by rw [r3]; rfl⟩
      · rw [if_neg (by rw [hle]; exact hn), if_neg hn]
        simp only [f_M_text_b68, mI_0, mP_0, mI_4, mP_4, mI_5, mP_5, mI_6, mP_6, mI_20, mP_20, mI_21, mP_21, mI_22, mP_22, mI_23, mP_23, mI_25, mP_25, mI_27, mP_27, mR_1, mG_1, mS_1, mR_2, mG_2, mS_2, mR_3, mG_3, mS_3, mR_7, mG_7, mS_7, mR_8, mG_8, mS_8, mR_9, mG_9, mS_9, mR_10, mG_10, mS_10, mR_11, mG_11, mS_11, mR_12, mG_12, mS_12, mR_13, mG_13, mS_13, mR_14, mG_14, mS_14, mR_15, mG_15, mS_15, mR_16, mG_16, mS_16, mR_17, mG_17, mS_17, mR_18, mG_18, mS_18, mR_19, mG_19, mS_19, mR_24, mG_24, mS_24, mR_26, mG_26, mS_26, mK_8, gS_1, gS_2, gA_1, gA_2, Option.bind_some, Option.bind_none, eq_self, if_true, if_false, ite_true, ite_false, bd_I, bd_V, bd_A, bd_L, re_I, re_V, Bool.true_and, Bool.and_true, reduceIte, reduceCtorEq, ↓reduceIte, Nat.reduceEqDiff, show ¬ ((3 : Int32) ≤ 0) by decide]
        exact ⟨_, rfl, (q2.cd (ni 0)).cd 3, rfl⟩
  · simp only [hc, if_false, f_M_text_b22, mI_0, mP_0, mI_4, mP_4, mI_5, mP_5, mI_6, mP_6, mI_20, mP_20, mI_21, mP_21, mI_22, mP_22, mI_23, mP_23, mI_25, mP_25, mI_27, mP_27, mR_1, mG_1, mS_1, mR_2, mG_2, mS_2, mR_3, mG_3, mS_3, mR_7, mG_7, mS_7, mR_8, mG_8, mS_8, mR_9, mG_9, mS_9, mR_10, mG_10, mS_10, mR_11, mG_11, mS_11, mR_12, mG_12, mS_12, mR_13, mG_13, mS_13, mR_14, mG_14, mS_14, mR_15, mG_15, mS_15, mR_16, mG_16, mS_16, mR_17, mG_17, mS_17, mR_18, mG_18, mS_18, mR_19, mG_19, mS_19, mR_24, mG_24, mS_24, mR_26, mG_26, mS_26, mK_8, gS_1, gS_2, gA_1, gA_2, Option.bind_some, Option.bind_none, eq_self, if_true, if_false, ite_true, ite_false, bd_I, bd_V, bd_A, bd_L, re_I, re_V, Bool.true_and, Bool.and_true, reduceIte, reduceCtorEq, ↓reduceIte, Nat.reduceEqDiff, show ¬ ((1 : Int32) ≤ 0) by decide]
    exact ⟨_, rfl, hR0.cd 1, rfl⟩
