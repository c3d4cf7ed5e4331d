theorem T_readAll {b : Nat} {as : List Nat} {h0 h : Hs_t} {ls : List Ly_t} {s : Sr_t} {lv lvm cl : Int32} {bag lt : List Int32} (hT : RT b as h ls s lv lvm cl bag lt) (hF : FK b h0 h) (hv : iv_O ls s) (hL : ls.length ≤ 5) (hlv : lv = 0 ∨ lv = 1) {n : Nat} (hn : n ≤ 120) (hb : bag.length + n ≤ 160) :
    match (fl n n ls s lv bag) with
    | (0, ls1, s1, lv1, bag1) => ∃ h', f_T_readAll b (ni n) h = re_V h' ∧ RT b as h' ls1 s1 lv1 lvm cl bag1 lt ∧ FK b h0 h'
    | (c + 1, ls1, s1, lv1, bag1) => ThR b h0 (f_T_readAll b (ni n) h) (10 + c) (fun as' h' => RT b as' h' ls1 s1 lv1 lvm cl bag1 lt) := by
  have := T_readAll_b4 b lvm cl lt h0 n n 0 0 (fu_N - n - 1) h as ls s lv bag hT hF hv hL hlv (Nat.le_refl _) (Nat.zero_le _) (by omega) hn (by omega)
  rw [show fu_N - n - 1 + n + 1 = fu_N by simp only [fu_N]; omega, Nat.sub_zero] at this
  exact this
/-- full -/
def op_full (w : Wd_t) (x : Int32) : (Option Value ⊕ Nat) × Wd_t := match w with
  | (ls, s, lv, lvm, cl, _, lt) => if cl = 0 then (if x < 0 then (.inr 9, (ls, s, lv, lvm, cl, [], lt)) else if x ≤ 60 then (match fl x.toNatClampNeg x.toNatClampNeg ls s lv [] with
    | (0, ls1, s1, lv1, bag1) => (.inl none, (ls1, s1, lv1, lvm, cl, bag1, lt))
    | (c + 1, ls1, s1, lv1, bag1) => (.inr (10 + c), (ls1, s1, lv1, lvm, cl, bag1, lt))) else (.inr 9, (ls, s, lv, lvm, cl, [], lt))) else (.inr 10, (ls, s, lv, lvm, cl, [], lt))
theorem T_full {b : Nat} {as : List Nat} {h : Hs_t} {w : Wd_t} (hT : RTw b as h w) (hv : wv_O w) (x : Int32) : TR b h (f_T_full b x h) (op_full w x).1 (op_full w x).2 := by
  obtain ⟨ls, s, lv, lvm, cl, bag, lt⟩ := w
  have hT : RT b as h ls s lv lvm cl bag lt := hT
  obtain ⟨v1, v2, v3, v4, v5, v6, v7, v8⟩ := hv
  rw [f_T_full, ck_0 hT, Option.bind_some]
  simp only [op_full]
  by_cases hc : cl = 0
  · obtain ⟨h1, e1, e2, e3⟩ := (T_start hT _).1 hc
    rw [e1, if_pos hc]
    by_cases x1 : x < 0
    · rw [if_pos x1, if_pos x1]
      exact T_throw e2 e3 9
    · rw [if_neg x1, if_neg x1]
      by_cases x2 : x ≤ 60
      · rw [if_pos x2, if_pos x2]
        obtain ⟨n, rfl, n1, n2⟩ := rg (lo := 0) (hi := 60) x1 x2 (by omega) (by omega)
        rw [ni_nat (by omega), ck_0 e2, Option.bind_some]
        have := T_readAll e2 e3 v1 v2 v3 (n := n) (by omega) (by simp only [List.length_nil]; omega)
        generalize fl n n ls s lv [] = z at *
        match z, this with
        | (0, ls1, s1, lv1, bag1), this =>
          obtain ⟨h2, q1, q2, q3⟩ := this
          rw [q1]
          exact ⟨h2, as, rfl, q2, q3⟩
        | (c + 1, ls1, s1, lv1, bag1), this =>
          obtain ⟨y, h2, as', q1, q2, q3, q4⟩ := this
          rw [q1]
          exact ⟨y, h2, as', rfl, q2, q3, q4⟩
      · rw [if_neg x2, if_neg x2]
        exact T_throw e2 e3 9
  · rw [if_neg hc]
    exact (T_start hT _).2 hc
theorem M_full {m : Nat} {h : Hs_t} {g : Mg_t} {w : Wd_t} (hR : RWw g w) (hv : wv_O w) (x : Int32) : MO m h (f_M_full m x (MH m g h)) (op_full w x).1 (fun t => if t = 9 then 1 else if t = 10 then 2 else 3) none (op_full w x).2 := by
  obtain ⟨ls, s, lv, lvm, cl, bag, lt⟩ := w
  have hR : RW g ls s lv lvm cl bag lt := hR
  obtain ⟨v1, v2, v3, v4, v5, v6, v7, v8⟩ := hv
  have e21 : g.1 21 = cl := hR.2.2.2.1
  have hR0 := hR.clr
  rw [f_M_full]
  simp only [mI_0, mP_0, mI_4, mP_4, mI_5, mP_5, mI_6, mP_6, mI_20, mP_20, mI_21, mP_21, mI_22, mP_22, mI_23, mP_23, mI_25, mP_25, mI_27, mP_27, mR_1, mG_1, mS_1, mR_2, mG_2, mS_2, mR_3, mG_3, mS_3, mR_7, mG_7, mS_7, mR_8, mG_8, mS_8, mR_9, mG_9, mS_9, mR_10, mG_10, mS_10, mR_11, mG_11, mS_11, mR_12, mG_12, mS_12, mR_13, mG_13, mS_13, mR_14, mG_14, mS_14, mR_15, mG_15, mS_15, mR_16, mG_16, mS_16, mR_17, mG_17, mS_17, mR_18, mG_18, mS_18, mR_19, mG_19, mS_19, mR_24, mG_24, mS_24, mR_26, mG_26, mS_26, mK_8, gS_1, gS_2, gA_1, gA_2, Option.bind_some, Option.bind_none, eq_self, if_true, if_false, ite_true, ite_false, bd_I, bd_V, bd_A, bd_L, re_I, re_V, Bool.true_and, Bool.and_true, reduceIte, reduceCtorEq, ↓reduceIte, Nat.reduceEqDiff, e21, op_full]
  by_cases hc : cl = 0
  · simp only [hc, if_true]
    subst hc
    by_cases x1 : x < 0
    · simp only [x1, if_true, f_M_full_b27, f_M_full_b32, mI_0, mP_0, mI_4, mP_4, mI_5, mP_5, mI_6, mP_6, mI_20, mP_20, mI_21, mP_21, mI_22, mP_22, mI_23, mP_23, mI_25, mP_25, mI_27, mP_27, mR_1, mG_1, mS_1, mR_2, mG_2, mS_2, mR_3, mG_3, mS_3, mR_7, mG_7, mS_7, mR_8, mG_8, mS_8, mR_9, mG_9, mS_9, mR_10, mG_10, mS_10, mR_11, mG_11, mS_11, mR_12, mG_12, mS_12, mR_13, mG_13, mS_13, mR_14, mG_14, mS_14, mR_15, mG_15, mS_15, mR_16, mG_16, mS_16, mR_17, mG_17, mS_17, mR_18, mG_18, mS_18, mR_19, mG_19, mS_19, mR_24, mG_24, mS_24, mR_26, mG_26, mS_26, mK_8, gS_1, gS_2, gA_1, gA_2, Option.bind_some, Option.bind_none, eq_self, if_true, if_false, ite_true, ite_false, bd_I, bd_V, bd_A, bd_L, re_I, re_V, Bool.true_and, Bool.and_true, reduceIte, reduceCtorEq, ↓reduceIte, Nat.reduceEqDiff, show ¬ ((1 : Int32) = 0) by decide, f_M_full_b63]
      exact ⟨_, rfl, hR0.cd 1, rfl⟩
    · simp only [x1, if_false]
      by_cases x2 : x ≤ 60
      · simp only [x2, if_true]
        obtain ⟨n, rfl, n1, n2⟩ := rg (lo := 0) (hi := 60) x1 x2 (by omega) (by omega)
        rw [ni_nat (by omega)]
        have hK := fl_iv n n ls s lv [] (Nat.le_refl _) v1 v3 by_nil
        obtain ⟨g1, q1, q2, q3⟩ := M_fill (m := m) (h := h) (hR0.cd 0) v1 v2 v3 (n := n) (by omega) (by simp only [List.length_nil]; omega)
        simp only [f_M_full_b32, mI_0, mP_0, mI_4, mP_4, mI_5, mP_5, mI_6, mP_6, mI_20, mP_20, mI_21, mP_21, mI_22, mP_22, mI_23, mP_23, mI_25, mP_25, mI_27, mP_27, mR_1, mG_1, mS_1, mR_2, mG_2, mS_2, mR_3, mG_3, mS_3, mR_7, mG_7, mS_7, mR_8, mG_8, mS_8, mR_9, mG_9, mS_9, mR_10, mG_10, mS_10, mR_11, mG_11, mS_11, mR_12, mG_12, mS_12, mR_13, mG_13, mS_13, mR_14, mG_14, mS_14, mR_15, mG_15, mS_15, mR_16, mG_16, mS_16, mR_17, mG_17, mS_17, mR_18, mG_18, mS_18, mR_19, mG_19, mS_19, mR_24, mG_24, mS_24, mR_26, mG_26, mS_26, mK_8, gS_1, gS_2, gA_1, gA_2, Option.bind_some, Option.bind_none, eq_self, if_true, if_false, ite_true, ite_false, bd_I, bd_V, bd_A, bd_L, re_I, re_V, Bool.true_and, Bool.and_true, reduceIte, reduceCtorEq, ↓reduceIte, Nat.reduceEqDiff, q1]
        generalize fl n n ls s lv [] = z at *
        match z, hK, q2 with
        | (0, ls1, s1, lv1, bag1), hK, q2 =>
          simp only [show (ni 0 = 0) = True by decide, if_true, f_M_full_b60, f_M_full_b63, mI_0, mP_0, mI_4, mP_4, mI_5, mP_5, mI_6, mP_6, mI_20, mP_20, mI_21, mP_21, mI_22, mP_22, mI_23, mP_23, mI_25, mP_25, mI_27, mP_27, mR_1, mG_1, mS_1, mR_2, mG_2, mS_2, mR_3, mG_3, mS_3, mR_7, mG_7, mS_7, mR_8, mG_8, mS_8, mR_9, mG_9, mS_9, mR_10, mG_10, mS_10, mR_11, mG_11, mS_11, mR_12, mG_12, mS_12, mR_13, mG_13, mS_13, mR_14, mG_14, mS_14, mR_15, mG_15, mS_15, mR_16, mG_16, mS_16, mR_17, mG_17, mS_17, mR_18, mG_18, mS_18, mR_19, mG_19, mS_19, mR_24, mG_24, mS_24, mR_26, mG_26, mS_26, mK_8, gS_1, gS_2, gA_1, gA_2, Option.bind_some, Option.bind_none, eq_self, if_true, if_false, ite_true, ite_false, bd_I, bd_V, bd_A, bd_L, re_I, re_V, Bool.true_and, Bool.and_true, reduceIte, reduceCtorEq, ↓reduceIte, Nat.reduceEqDiff]
          exact ⟨_, rfl, q2.cd 0, rfl⟩
        | (1, ls1, s1, lv1, bag1), hK, q2 =>
          simp only [show (ni 1 = 0) = False by decide, if_false, f_M_full_b60, f_M_full_b63, mI_0, mP_0, mI_4, mP_4, mI_5, mP_5, mI_6, mP_6, mI_20, mP_20, mI_21, mP_21, mI_22, mP_22, mI_23, mP_23, mI_25, mP_25, mI_27, mP_27, mR_1, mG_1, mS_1, mR_2, mG_2, mS_2, mR_3, mG_3, mS_3, mR_7, mG_7, mS_7, mR_8, mG_8, mS_8, mR_9, mG_9, mS_9, mR_10, mG_10, mS_10, mR_11, mG_11, mS_11, mR_12, mG_12, mS_12, mR_13, mG_13, mS_13, mR_14, mG_14, mS_14, mR_15, mG_15, mS_15, mR_16, mG_16, mS_16, mR_17, mG_17, mS_17, mR_18, mG_18, mS_18, mR_19, mG_19, mS_19, mR_24, mG_24, mS_24, mR_26, mG_26, mS_26, mK_8, gS_1, gS_2, gA_1, gA_2, Option.bind_some, Option.bind_none, eq_self, if_true, if_false, ite_true, ite_false, bd_I, bd_V, bd_A, bd_L, re_I, re_V, Bool.true_and, Bool.and_true, reduceIte, reduceCtorEq, ↓reduceIte, Nat.reduceEqDiff]
          exact ⟨_, rfl, q2.cd (ni 1 + 1), rfl⟩
        | (2, ls1, s1, lv1, bag1), hK, q2 =>
          simp only [show (ni 2 = 0) = False by decide, if_false, f_M_full_b60, f_M_full_b63, mI_0, mP_0, mI_4, mP_4, mI_5, mP_5, mI_6, mP_6, mI_20, mP_20, mI_21, mP_21, mI_22, mP_22, mI_23, mP_23, mI_25, mP_25, mI_27, mP_27, mR_1, mG_1, mS_1, mR_2, mG_2, mS_2, mR_3, mG_3, mS_3, mR_7, mG_7, mS_7, mR_8, mG_8, mS_8, mR_9, mG_9, mS_9, mR_10, mG_10, mS_10, mR_11, mG_11, mS_11, mR_12, mG_12, mS_12, mR_13, mG_13, mS_13, mR_14, mG_14, mS_14, mR_15, mG_15, mS_15, mR_16, mG_16, mS_16, mR_17, mG_17, mS_17, mR_18, mG_18, mS_18, mR_19, mG_19, mS_19, mR_24, mG_24, mS_24, mR_26, mG_26, mS_26, mK_8, gS_1, gS_2, gA_1, gA_2, Option.bind_some, Option.bind_none, eq_self, if_true, if_false, ite_true, ite_false, bd_I, bd_V, bd_A, bd_L, re_I, re_V, Bool.true_and, Bool.and_true, reduceIte, reduceCtorEq, ↓reduceIte, Nat.reduceEqDiff]
          exact ⟨_, rfl, q2.cd (ni 2 + 1), rfl⟩
        | (c + 3, ls1, s1, lv1, bag1), hK, q2 => exact absurd hK.2.2.2.1 (by simp)
      · simp only [x2, if_false, f_M_full_b27, f_M_full_b32, mI_0, mP_0, mI_4, mP_4, mI_5, mP_5, mI_6, mP_6, mI_20, mP_20, mI_21, mP_21, mI_22, mP_22, mI_23, mP_23, mI_25, mP_25, mI_27, mP_27, mR_1, mG_1, mS_1, mR_2, mG_2, mS_2, mR_3, mG_3, mS_3, mR_7, mG_7, mS_7, mR_8, mG_8, mS_8, mR_9, mG_9, mS_9, mR_10, mG_10, mS_10, mR_11, mG_11, mS_11, mR_12, mG_12, mS_12, mR_13, mG_13, mS_13, mR_14, mG_14, mS_14, mR_15, mG_15, mS_15, mR_16, mG_16, mS_16, mR_17, mG_17, mS_17, mR_18, mG_18, mS_18, mR_19, mG_19, mS_19, mR_24, mG_24, mS_24, mR_26, mG_26, mS_26, mK_8, gS_1, gS_2, gA_1, gA_2, Option.bind_some, Option.bind_none, eq_self, if_true, if_false, ite_true, ite_false, bd_I, bd_V, bd_A, bd_L, re_I, re_V, Bool.true_and, Bool.and_true, reduceIte, reduceCtorEq, ↓reduceIte, Nat.reduceEqDiff, show ¬ ((1 : Int32) = 0) by decide, f_M_full_b63]
        exact ⟨_, rfl, hR0.cd 1, rfl⟩
  · simp only [hc, if_false, f_M_full_b32, mI_0, mP_0, mI_4, mP_4, mI_5, mP_5, mI_6, mP_6, mI_20, mP_20, mI_21, mP_21, mI_22, mP_22, mI_23, mP_23, mI_25, mP_25, mI_27, mP_27, mR_1, mG_1, mS_1, mR_2, mG_2, mS_2, mR_3, mG_3, mS_3, mR_7, mG_7, mS_7, mR_8, mG_8, mS_8, mR_9, mG_9, mS_9, mR_10, mG_10, mS_10, mR_11, mG_11, mS_11, mR_12, mG_12, mS_12, mR_13, mG_13, mS_13, mR_14, mG_14, mS_14, mR_15, mG_15, mS_15, mR_16, mG_16, mS_16, mR_17, mG_17, mS_17, mR_18, mG_18, mS_18, mR_19, mG_19, mS_19, mR_24, mG_24, mS_24, mR_26, mG_26, mS_26, mK_8, gS_1, gS_2, gA_1, gA_2, Option.bind_some, Option.bind_none, eq_self, if_true, if_false, ite_true, ite_false, bd_I, bd_V, bd_A, bd_L, re_I, re_V, Bool.true_and, Bool.and_true, reduceIte, reduceCtorEq, ↓reduceIte, Nat.reduceEqDiff, show ¬ ((2 : Int32) = 0) by decide, f_M_full_b63]
    exact ⟨_, rfl, hR0.cd 2, rfl⟩
/-- the number that the bag's first bytes make -/
def nb (bag : List Int32) : Nat → Nat → Int64 → Int64
  | 0, _, a => a
  | d + 1, i, a => nb bag d (i + 1) ((a <<< ((8 : Int32).toInt64 &&& 63)) ||| (bag.getD i 0).toInt64)
theorem T_nb {b : Nat} {as : List Nat} {h : Hs_t} {ls : List Ly_t} {s : Sr_t} {lv lvm cl : Int32} {bag lt : List Int32} (hT : RT b as h ls s lv lvm cl bag lt) (hb : bag.length ≤ 160) (n : Nat) (hn : n ≤ bag.length) (d : Nat) : ∀ (i F : Nat) (a : Int64), i + d = n → f_T_numberInBag_b5 (F + d + 1) b (ni n) a (ni i) h = re_L (nb bag d i a) h := by
  obtain ⟨a1, a2, a3, a4, ⟨f8, a5, a5'⟩, a6, a7, a8, a9, a10, a11, a12⟩ := hT
  induction d with
  | zero =>
    intro i F a hi
    rw [f_T_numberInBag_b5, if_pos (niL (by omega) (by omega) (by omega))]
    rfl
  | succ d ih =>
    intro i F a hi
    have hg := C_get_in a4 a5 a5' hb (by omega) i (by omega)
    rw [show F + (d + 1) + 1 = (F + d + 1) + 1 by omega, f_T_numberInBag_b5, if_neg (niNL (by omega) (by omega) (by omega))]
    simp only [fd_I, fd_V, fd_A, pt_V, pt_Z, ar_I, ar_Z, ar_R, as_I, as_Z, cp_I, ln_A, ck_T, tg_O, hp_2, List.contains_cons, List.contains_nil, List.getElem?_cons_zero, List.getElem?_cons_succ, List.set_cons_succ, List.set_cons_zero, List.length_cons, List.length_nil, Option.bind_some, Option.bind_none, Nat.reduceLT, Nat.reduceAdd, Nat.reduceBEq, BEq.rfl, beq_self_eq_true, Bool.or_false, Bool.or_true, Bool.true_or, Bool.false_or, decide_true, decide_false, Bool.not_false, Bool.not_true, Nat.zero_lt_succ, Nat.lt_add_left_iff_pos, Nat.succ_ne_self, ne_eq, not_false_eq_true, eq_self, if_true, if_false, ite_true, ite_false, bd_I, bd_V, bd_A, bd_L, re_I, re_V, Bool.true_and, Bool.and_true, reduceIte, reduceCtorEq, ↓reduceIte, Nat.reduceEqDiff, a1, a4, hg, ni_p1]
    rw [ih (i + 1) F _ (by omega)]
    rfl
theorem bg_at {f : Nat → Int32} {bag : List Int32} (h : sl f 0 bag.length = bag) {i : Nat} (hi : i < bag.length) : f i = bag.getD i 0 := by
  have := sl_at h i hi
  rw [Nat.zero_add] at this
  rw [this, List.getD_eq_getElem?_getD, List.getElem?_eq_getElem hi]; rfl
theorem M_nb {m : Nat} {h : Hs_t} {g : Mg_t} {ls : List Ly_t} {s : Sr_t} {lv lvm cl : Int32} {bag lt : List Int32} (hR : RW g ls s lv lvm cl bag lt) (hb : bag.length ≤ 160) (n : Nat) (hn : n ≤ bag.length) (d : Nat) : ∀ (i F : Nat) (a : Int64), i + d = n → f_M_number_b80 (F + d + 1) m (ni n) a (ni i) (MH m g h) = re_L (nb bag d i a) (MH m g h) := by
  have a8 := hR.2.2.2.2.2.2.2.1
  induction d with
  | zero =>
    intro i F a hi
    rw [f_M_number_b80, if_pos (niL (by omega) (by omega) (by omega))]
    rfl
  | succ d ih =>
    intro i F a hi
    have h4 : in_R (ni i) 600 = true := ni_in_t (by omega) (by omega)
    have h5 : (ni i).toNatClampNeg = i := ni_nat (by omega)
    rw [show F + (d + 1) + 1 = (F + d + 1) + 1 by omega, f_M_number_b80, if_neg (niNL (by omega) (by omega) (by omega))]
    simp only [mI_0, mP_0, mI_4, mP_4, mI_5, mP_5, mI_6, mP_6, mI_20, mP_20, mI_21, mP_21, mI_22, mP_22, mI_23, mP_23, mI_25, mP_25, mI_27, mP_27, mR_1, mG_1, mS_1, mR_2, mG_2, mS_2, mR_3, mG_3, mS_3, mR_7, mG_7, mS_7, mR_8, mG_8, mS_8, mR_9, mG_9, mS_9, mR_10, mG_10, mS_10, mR_11, mG_11, mS_11, mR_12, mG_12, mS_12, mR_13, mG_13, mS_13, mR_14, mG_14, mS_14, mR_15, mG_15, mS_15, mR_16, mG_16, mS_16, mR_17, mG_17, mS_17, mR_18, mG_18, mS_18, mR_19, mG_19, mS_19, mR_24, mG_24, mS_24, mR_26, mG_26, mS_26, mK_8, gS_1, gS_2, gA_1, gA_2, Option.bind_some, Option.bind_none, eq_self, if_true, if_false, ite_true, ite_false, bd_I, bd_V, bd_A, bd_L, re_I, re_V, Bool.true_and, Bool.and_true, reduceIte, reduceCtorEq, ↓reduceIte, Nat.reduceEqDiff, h4, h5, ni_p1]
    rw [ih (i + 1) F _ (by omega), bg_at a8 (by omega)]
    rfl
/-- number -/
def op_number (w : Wd_t) (x : Int32) : (Option Value ⊕ Nat) × Wd_t := match w with
  | (ls, s, lv, lvm, cl, _, lt) => if cl = 0 then (if x < 1 then (.inr 9, (ls, s, lv, lvm, cl, [], lt)) else if x ≤ 8 then (match fl x.toNatClampNeg x.toNatClampNeg ls s lv [] with
    | (0, ls1, s1, lv1, bag1) => (.inl (some (.long (nb bag1 x.toNatClampNeg 0 0))), (ls1, s1, lv1, lvm, cl, bag1, lt))
    | (c + 1, ls1, s1, lv1, bag1) => (.inr (10 + c), (ls1, s1, lv1, lvm, cl, bag1, lt))) else (.inr 9, (ls, s, lv, lvm, cl, [], lt))) else (.inr 10, (ls, s, lv, lvm, cl, [], lt))
theorem T_number {b : Nat} {as : List Nat} {h : Hs_t} {w : Wd_t} (hT : RTw b as h w) (hv : wv_O w) (x : Int32) : TR b h (f_T_number b x h) (op_number w x).1 (op_number w x).2 := by
  obtain ⟨ls, s, lv, lvm, cl, bag, lt⟩ := w
  have hT : RT b as h ls s lv lvm cl bag lt := hT
  obtain ⟨v1, v2, v3, v4, v5, v6, v7, v8⟩ := hv
  rw [f_T_number, ck_0 hT, Option.bind_some]
  simp only [op_number]
  by_cases hc : cl = 0
  · obtain ⟨h1, e1, e2, e3⟩ := (T_start hT _).1 hc
    rw [e1, if_pos hc]
    by_cases x1 : x < 1
    · rw [if_pos x1, if_pos x1]
      exact T_throw e2 e3 9
    · rw [if_neg x1, if_neg x1]
      by_cases x2 : x ≤ 8
      · rw [if_pos x2, if_pos x2]
        obtain ⟨n, rfl, n1, n2⟩ := rg (lo := 1) (hi := 8) x1 x2 (by omega) (by omega)
        rw [ni_nat (by omega), ck_0 e2, Option.bind_some]
        have := T_readAll e2 e3 v1 v2 v3 (n := n) (by omega) (by simp only [List.length_nil]; omega)
        have hK := fl_iv n n ls s lv [] (Nat.le_refl _) v1 v3 by_nil
        generalize fl n n ls s lv [] = z at *
        match z, this, hK with
        | (0, ls1, s1, lv1, bag1), this, hK =>
          obtain ⟨h2, q1, q2, q3⟩ := this
          have hl := (hK.2.2.2.2.2.2 rfl).1
          simp only [List.length_nil, Nat.zero_add] at hl
          have hnb := T_nb q2 (by omega) n (by omega) n 0 (fu_N - n - 1) 0 (by omega)
          rw [show fu_N - n - 1 + n + 1 = fu_N by simp only [fu_N]; omega] at hnb
          rw [q1]
          simp only [bd_V, re_V, ck_0 q2, Option.bind_some, f_T_numberInBag]
          rw [show f_T_numberInBag_b5 fu_N b (ni n) 0 0 h2 = _ from hnb]
          exact ⟨h2, as, rfl, q2, q3⟩
        | (c + 1, ls1, s1, lv1, bag1), this, hK =>
          obtain ⟨y, h2, as', q1, q2, q3, q4⟩ := this
          rw [q1]
          exact ⟨y, h2, as', rfl, q2, q3, q4⟩
      · rw [if_neg x2, if_neg x2]
        exact T_throw e2 e3 9
  · rw [if_neg hc]
    exact (T_start hT _).2 hc
theorem M_number {m : Nat} {h : Hs_t} {g : Mg_t} {w : Wd_t} (hR : RWw g w) (hv : wv_O w) (x : Int32) : MO m h (f_M_number m x (MH m g h)) (op_number w x).1 (fun t => if t = 9 then 1 else if t = 10 then 2 else 3) (some (.long 0)) (op_number w x).2 := by
  obtain ⟨ls, s, lv, lvm, cl, bag, lt⟩ := w
  have hR : RW g ls s lv lvm cl bag lt := hR
  obtain ⟨v1, v2, v3, v4, v5, v6, v7, v8⟩ := hv
  have e21 : g.1 21 = cl := hR.2.2.2.1
  have hR0 := hR.clr
  rw [f_M_number]
  simp only [mI_0, mP_0, mI_4, mP_4, mI_5, mP_5, mI_6, mP_6, mI_20, mP_20, mI_21, mP_21, mI_22, mP_22, mI_23, mP_23, mI_25, mP_25, mI_27, mP_27, mR_1, mG_1, mS_1, mR_2, mG_2, mS_2, mR_3, mG_3, mS_3, mR_7, mG_7, mS_7, mR_8, mG_8, mS_8, mR_9, mG_9, mS_9, mR_10, mG_10, mS_10, mR_11, mG_11, mS_11, mR_12, mG_12, mS_12, mR_13, mG_13, mS_13, mR_14, mG_14, mS_14, mR_15, mG_15, mS_15, mR_16, mG_16, mS_16, mR_17, mG_17, mS_17, mR_18, mG_18, mS_18, mR_19, mG_19, mS_19, mR_24, mG_24, mS_24, mR_26, mG_26, mS_26, mK_8, gS_1, gS_2, gA_1, gA_2, Option.bind_some, Option.bind_none, eq_self, if_true, if_false, ite_true, ite_false, bd_I, bd_V, bd_A, bd_L, re_I, re_V, Bool.true_and, Bool.and_true, reduceIte, reduceCtorEq, ↓reduceIte, Nat.reduceEqDiff, e21, op_number]
  by_cases hc : cl = 0
  · simp only [hc, if_true]
    subst hc
    by_cases x1 : x < 1
    · simp only [x1, if_true, f_M_number_b28, f_M_number_b33, mI_0, mP_0, mI_4, mP_4, mI_5, mP_5, mI_6, mP_6, mI_20, mP_20, mI_21, mP_21, mI_22, mP_22, mI_23, mP_23, mI_25, mP_25, mI_27, mP_27, mR_1, mG_1, mS_1, mR_2, mG_2, mS_2, mR_3, mG_3, mS_3, mR_7, mG_7, mS_7, mR_8, mG_8, mS_8, mR_9, mG_9, mS_9, mR_10, mG_10, mS_10, mR_11, mG_11, mS_11, mR_12, mG_12, mS_12, mR_13, mG_13, mS_13, mR_14, mG_14, mS_14, mR_15, mG_15, mS_15, mR_16, mG_16, mS_16, mR_17, mG_17, mS_17, mR_18, mG_18, mS_18, mR_19, mG_19, mS_19, mR_24, mG_24, mS_24, mR_26, mG_26, mS_26, mK_8, gS_1, gS_2, gA_1, gA_2, Option.bind_some, Option.bind_none, eq_self, if_true, if_false, ite_true, ite_false, bd_I, bd_V, bd_A, bd_L, re_I, re_V, Bool.true_and, Bool.and_true, reduceIte, reduceCtorEq, ↓reduceIte, Nat.reduceEqDiff, show ¬ ((1 : Int32) ≤ 0) by decide, re_L]
      exact ⟨_, rfl, hR0.cd 1, rfl⟩
    · simp only [x1, if_false]
      by_cases x2 : x ≤ 8
      · simp only [x2, if_true]
        obtain ⟨n, rfl, n1, n2⟩ := rg (lo := 1) (hi := 8) x1 x2 (by omega) (by omega)
        rw [ni_nat (by omega)]
        have hK := fl_iv n n ls s lv [] (Nat.le_refl _) v1 v3 by_nil
        obtain ⟨g1, q1, q2, q3⟩ := M_fill (m := m) (h := h) (hR0.cd 0) v1 v2 v3 (n := n) (by omega) (by simp only [List.length_nil]; omega)
        simp only [f_M_number_b33, mI_0, mP_0, mI_4, mP_4, mI_5, mP_5, mI_6, mP_6, mI_20, mP_20, mI_21, mP_21, mI_22, mP_22, mI_23, mP_23, mI_25, mP_25, mI_27, mP_27, mR_1, mG_1, mS_1, mR_2, mG_2, mS_2, mR_3, mG_3, mS_3, mR_7, mG_7, mS_7, mR_8, mG_8, mS_8, mR_9, mG_9, mS_9, mR_10, mG_10, mS_10, mR_11, mG_11, mS_11, mR_12, mG_12, mS_12, mR_13, mG_13, mS_13, mR_14, mG_14, mS_14, mR_15, mG_15, mS_15, mR_16, mG_16, mS_16, mR_17, mG_17, mS_17, mR_18, mG_18, mS_18, mR_19, mG_19, mS_19, mR_24, mG_24, mS_24, mR_26, mG_26, mS_26, mK_8, gS_1, gS_2, gA_1, gA_2, Option.bind_some, Option.bind_none, eq_self, if_true, if_false, ite_true, ite_false, bd_I, bd_V, bd_A, bd_L, re_I, re_V, Bool.true_and, Bool.and_true, reduceIte, reduceCtorEq, ↓reduceIte, Nat.reduceEqDiff, q1, show ((0 : Int32) ≤ 0) = True by decide]
        generalize fl n n ls s lv [] = z at *
        match z, hK, q2 with
        | (0, ls1, s1, lv1, bag1), hK, q2 =>
          have hl := (hK.2.2.2.2.2.2 rfl).1
          simp only [List.length_nil, Nat.zero_add] at hl
          have hnb := M_nb (m := m) (h := h) (bag := bag1) (q2.cd 0) (by omega) n (by omega) n 0 (fu_N - n - 1) 0 (by omega)
          rw [show fu_N - n - 1 + n + 1 = fu_N by simp only [fu_N]; omega] at hnb
          simp only [show (ni 0 = 0) = True by decide, if_true, f_M_number_b63, mI_0, mP_0, mI_4, mP_4, mI_5, mP_5, mI_6, mP_6, mI_20, mP_20, mI_21, mP_21, mI_22, mP_22, mI_23, mP_23, mI_25, mP_25, mI_27, mP_27, mR_1, mG_1, mS_1, mR_2, mG_2, mS_2, mR_3, mG_3, mS_3, mR_7, mG_7, mS_7, mR_8, mG_8, mS_8, mR_9, mG_9, mS_9, mR_10, mG_10, mS_10, mR_11, mG_11, mS_11, mR_12, mG_12, mS_12, mR_13, mG_13, mS_13, mR_14, mG_14, mS_14, mR_15, mG_15, mS_15, mR_16, mG_16, mS_16, mR_17, mG_17, mS_17, mR_18, mG_18, mS_18, mR_19, mG_19, mS_19, mR_24, mG_24, mS_24, mR_26, mG_26, mS_26, mK_8, gS_1, gS_2, gA_1, gA_2, Option.bind_some, Option.bind_none, eq_self, if_true, if_false, ite_true, ite_false, bd_I, bd_V, bd_A, bd_L, re_I, re_V, Bool.true_and, Bool.and_true, reduceIte, reduceCtorEq, ↓reduceIte, Nat.reduceEqDiff, show ((0 : Int32) ≤ 0) = True by decide]
          rw [show f_M_number_b80 fu_N m (ni n) 0 0 (MH m (gS g1 0 0) h) = _ from hnb]
          exact ⟨_, rfl, q2.cd 0, rfl⟩
        | (1, ls1, s1, lv1, bag1), hK, q2 =>
          simp only [show (ni 1 = 0) = False by decide, if_false, f_M_number_b63, mI_0, mP_0, mI_4, mP_4, mI_5, mP_5, mI_6, mP_6, mI_20, mP_20, mI_21, mP_21, mI_22, mP_22, mI_23, mP_23, mI_25, mP_25, mI_27, mP_27, mR_1, mG_1, mS_1, mR_2, mG_2, mS_2, mR_3, mG_3, mS_3, mR_7, mG_7, mS_7, mR_8, mG_8, mS_8, mR_9, mG_9, mS_9, mR_10, mG_10, mS_10, mR_11, mG_11, mS_11, mR_12, mG_12, mS_12, mR_13, mG_13, mS_13, mR_14, mG_14, mS_14, mR_15, mG_15, mS_15, mR_16, mG_16, mS_16, mR_17, mG_17, mS_17, mR_18, mG_18, mS_18, mR_19, mG_19, mS_19, mR_24, mG_24, mS_24, mR_26, mG_26, mS_26, mK_8, gS_1, gS_2, gA_1, gA_2, Option.bind_some, Option.bind_none, eq_self, if_true, if_false, ite_true, ite_false, bd_I, bd_V, bd_A, bd_L, re_I, re_V, Bool.true_and, Bool.and_true, reduceIte, reduceCtorEq, ↓reduceIte, Nat.reduceEqDiff, show ¬ (ni 1 + 1 ≤ 0) by decide, re_L]
          exact ⟨_, rfl, q2.cd (ni 1 + 1), rfl⟩
        | (2, ls1, s1, lv1, bag1), hK, q2 =>
          simp only [show (ni 2 = 0) = False by decide, if_false, f_M_number_b63, mI_0, mP_0, mI_4, mP_4, mI_5, mP_5, mI_6, mP_6, mI_20, mP_20, mI_21, mP_21, mI_22, mP_22, mI_23, mP_23, mI_25, mP_25, mI_27, mP_27, mR_1, mG_1, mS_1, mR_2, mG_2, mS_2, mR_3, mG_3, mS_3, mR_7, mG_7, mS_7, mR_8, mG_8, mS_8, mR_9, mG_9, mS_9, mR_10, mG_10, mS_10, mR_11, mG_11, mS_11, mR_12, mG_12, mS_12, mR_13, mG_13, mS_13, mR_14, mG_14, mS_14, mR_15, mG_15, mS_15, mR_16, mG_16, mS_16, mR_17, mG_17, mS_17, mR_18, mG_18, mS_18, mR_19, mG_19, mS_19, mR_24, mG_24, mS_24, mR_26, mG_26, mS_26, mK_8, gS_1, gS_2, gA_1, gA_2, Option.bind_some, Option.bind_none, eq_self, if_true, if_false, ite_true, ite_false, bd_I, bd_V, bd_A, bd_L, re_I, re_V, Bool.true_and, Bool.and_true, reduceIte, reduceCtorEq, ↓reduceIte, Nat.reduceEqDiff, show ¬ (ni 2 + 1 ≤ 0) by decide, re_L]
          exact ⟨_, rfl, q2.cd (ni 2 + 1), rfl⟩
        | (c + 3, ls1, s1, lv1, bag1), hK, q2 => exact absurd hK.2.2.2.1 (by simp)
      · simp only [x2, if_false, f_M_number_b28, f_M_number_b33, mI_0, mP_0, mI_4, mP_4, mI_5, mP_5, mI_6, mP_6, mI_20, mP_20, mI_21, mP_21, mI_22, mP_22, mI_23, mP_23, mI_25, mP_25, mI_27, mP_27, mR_1, mG_1, mS_1, mR_2, mG_2, mS_2, mR_3, mG_3, mS_3, mR_7, mG_7, mS_7, mR_8, mG_8, mS_8, mR_9, mG_9, mS_9, mR_10, mG_10, mS_10, mR_11, mG_11, mS_11, mR_12, mG_12, mS_12, mR_13, mG_13, mS_13, mR_14, mG_14, mS_14, mR_15, mG_15, mS_15, mR_16, mG_16, mS_16, mR_17, mG_17, mS_17, mR_18, mG_18, mS_18, mR_19, mG_19, mS_19, mR_24, mG_24, mS_24, mR_26, mG_26, mS_26, mK_8, gS_1, gS_2, gA_1, gA_2, Option.bind_some, Option.bind_none, eq_self, if_true, if_false, ite_true, ite_false, bd_I, bd_V, bd_A, bd_L, re_I, re_V, Bool.true_and, Bool.and_true, reduceIte, reduceCtorEq, ↓reduceIte, Nat.reduceEqDiff, show ¬ ((1 : Int32) ≤ 0) by decide, re_L]
        exact ⟨_, rfl, hR0.cd 1, rfl⟩
  · simp only [hc, if_false, f_M_number_b33, mI_0, mP_0, mI_4, mP_4, mI_5, mP_5, mI_6, mP_6, mI_20, mP_20, mI_21, mP_21, mI_22, mP_22, mI_23, mP_23, mI_25, mP_25, mI_27, mP_27, mR_1, mG_1, mS_1, mR_2, mG_2, mS_2, mR_3, mG_3, mS_3, mR_7, mG_7, mS_7, mR_8, mG_8, mS_8, mR_9, mG_9, mS_9, mR_10, mG_10, mS_10, mR_11, mG_11, mS_11, mR_12, mG_12, mS_12, mR_13, mG_13, mS_13, mR_14, mG_14, mS_14, mR_15, mG_15, mS_15, mR_16, mG_16, mS_16, mR_17, mG_17, mS_17, mR_18, mG_18, mS_18, mR_19, mG_19, mS_19, mR_24, mG_24, mS_24, mR_26, mG_26, mS_26, mK_8, gS_1, gS_2, gA_1, gA_2, Option.bind_some, Option.bind_none, eq_self, if_true, if_false, ite_true, ite_false, bd_I, bd_V, bd_A, bd_L, re_I, re_V, Bool.true_and, Bool.and_true, reduceIte, reduceCtorEq, ↓reduceIte, Nat.reduceEqDiff, show ¬ ((2 : Int32) ≤ 0) by decide, re_L]
    exact ⟨_, rfl, hR0.cd 2, rfl⟩
