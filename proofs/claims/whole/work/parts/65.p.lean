/-! push. -/
def gd_B (k x : Int32) : Bool := if k = 1 then (!decide (x < 1) && !decide (16 < x)) else if k = 2 then (!decide (x < 1) && !decide (8 < x)) else if k = 3 then (!decide (x < 0) && !decide (200 < x)) else if k = 4 then (!decide (x < 0) && !decide (255 < x)) else if k = 5 then decide (x = 0) else false
def nl_L (k x : Int32) : Ly_t := if k = 1 then ly_B x.toNatClampNeg [] [] none else if k = 2 then ly_P x.toNatClampNeg [] else if k = 3 then ly_M x.toNatClampNeg x.toNatClampNeg else if k = 4 then ly_C x 0 0 else ly_N 0 0 0 0
def op_push (w : Wd_t) (k x : Int32) : (Option Value ⊕ Nat) × Wd_t := match w with
  | (ls, s, lv, lvm, cl, r) => if gd_B k x then (if cl = 0 then (if ls.length < 5 then (.inl (some (.int (ni ls.length))), (nl_L k x :: ls, s, lv, lvm, cl, r)) else (.inr 10, (ls, s, lv, lvm, cl, r))) else (.inr 10, (ls, s, lv, lvm, cl, r))) else (.inr 9, (ls, s, lv, lvm, cl, r))
theorem T_gd (k x : Int32) (h : Hs_t) : f_T_isSizeOfKind k x h = re_Z (bI (gd_B k x)) h := by
  rw [f_T_isSizeOfKind]
  simp only [f_T_isSizeOfKind_b51, f_T_isSizeOfKind_b52, f_T_isSizeOfKind_b68, f_T_isSizeOfKind_b69, f_T_isSizeOfKind_b85, f_T_isSizeOfKind_b86, f_T_isSizeOfKind_b102, f_T_isSizeOfKind_b103, f_T_isSizeOfKind_b113]
  unfold gd_B
  by_cases k1 : k = 1
  · simp only [k1, if_true]
    by_cases a : x < 1
    · simp [a, bI]
    · by_cases c : 16 < x
      · simp [a, c, bI]
      · simp [a, c, bI]
  · by_cases k2 : k = 2
    · simp only [k1, k2, if_true, if_false]
      by_cases a : x < 1
      · simp [a, bI]
      · by_cases c : 8 < x
        · simp [a, c, bI]
        · simp [a, c, bI]
    · by_cases k3 : k = 3
      · simp only [k1, k2, k3, if_true, if_false]
        by_cases a : x < 0
        · simp [a, bI]
        · by_cases c : 200 < x
          · simp [a, c, bI]
          · simp [a, c, bI]
      · by_cases k4 : k = 4
        · simp only [k1, k2, k3, k4, if_true, if_false]
          by_cases a : x < 0
          · simp [a, bI]
          · by_cases c : 255 < x
            · simp [a, c, bI]
            · simp [a, c, bI]
        · by_cases k5 : k = 5
          · simp only [k1, k2, k3, k4, k5, if_true, if_false]
            by_cases a : x = 0
            · simp [a, bI]
            · simp [a, bI]
          · simp only [k1, k2, k3, k4, k5, if_false, bI]
theorem M_gd (m : Nat) (k x : Int32) (h : Hs_t) : f_M_push m k x h = f_M_push_b87 m k x (bI (gd_B k x)) h := by
  have n51 : ¬ ((5 : Int32) < 1) := by decide
  rw [f_M_push]
  simp only [f_M_push_b10, f_M_push_b15, f_M_push_b59, f_M_push_b86]
  unfold gd_B
  by_cases k1 : k = 1
  · simp only [k1, if_true, show ¬ ((1 : Int32) < 1) by decide, show ¬ ((5 : Int32) < 1) by decide, if_false]
    by_cases a : x < 1
    · simp [a, bI]
    · by_cases c : 16 < x
      · simp [a, c, bI]
      · simp [a, c, bI]
  · by_cases k2 : k = 2
    · simp only [k1, k2, if_true, show ¬ ((2 : Int32) = 1) by decide, show ¬ ((2 : Int32) < 1) by decide, show ¬ ((5 : Int32) < 2) by decide, if_false]
      by_cases a : x < 1
      · simp [a, bI]
      · by_cases c : 8 < x
        · simp [a, c, bI]
        · simp [a, c, bI]
    · by_cases k3 : k = 3
      · simp only [k3, if_true, show ¬ ((3 : Int32) = 1) by decide, show ¬ ((3 : Int32) = 2) by decide, show ¬ ((3 : Int32) < 1) by decide, show ¬ ((5 : Int32) < 3) by decide, if_false]
        by_cases a : x < 0
        · simp [a, bI]
        · by_cases c : 200 < x
          · simp [a, c, bI]
          · simp [a, c, bI]
      · by_cases k4 : k = 4
        · simp only [k4, if_true, show ¬ ((4 : Int32) = 1) by decide, show ¬ ((4 : Int32) = 2) by decide, show ¬ ((4 : Int32) = 3) by decide, show ¬ ((4 : Int32) < 1) by decide, show ¬ ((5 : Int32) < 4) by decide, if_false]
          by_cases a : x < 0
          · simp [a, bI]
          · by_cases c : 255 < x
            · simp [a, c, bI]
            · simp [a, c, bI]
        · by_cases k5 : k = 5
          · simp only [k5, if_true, show ¬ ((5 : Int32) = 1) by decide, show ¬ ((5 : Int32) = 2) by decide, show ¬ ((5 : Int32) = 3) by decide, show ¬ ((5 : Int32) = 4) by decide, n51, show ¬ ((5 : Int32) < 5) by decide, if_false]
            by_cases a : x = 0
            · subst a; simp [bI]
            · by_cases c : x < 0
              · simp [a, c, bI]
              · have d : 0 < x := by
                  rw [Int32.lt_iff_toInt_lt] at *
                  have e1 : (0 : Int32).toInt = 0 := by decide
                  have e3 : x.toInt ≠ 0 := fun e => a (Int32.toInt.inj (by rw [e, e1]))
                  omega
                simp [a, c, d, bI]
          · simp only [k1, k2, k3, k4, k5, if_false, bI]
            by_cases a : k < 1
            · simp [a]
            · by_cases c : 5 < k
              · simp [a, c]
              · exfalso
                have hle : k ≤ 5 := by
                  rw [Int32.le_iff_toInt_le]; rw [Int32.lt_iff_toInt_lt] at c; omega
                obtain ⟨n, rfl, n1, n2⟩ := rg (lo := 1) (hi := 5) a hle (by omega) (by omega)
                match n, n1, n2 with
                | 1, _, _ => exact k1 rfl
                | 2, _, _ => exact k2 rfl
                | 3, _, _ => exact k3 rfl
                | 4, _, _ => exact k4 rfl
                | 5, _, _ => exact k5 rfl
theorem hn_2 (h : Hs_t) (c : Ce_t) (q : Nat) : (hp_N h c).2 q = if q = h.1 then some c else h.2 q := rfl
theorem hn_1 (h : Hs_t) (c : Ce_t) : (hp_N h c).1 = h.1 + 1 := rfl
theorem hn_at (h : Hs_t) (c : Ce_t) : (hp_N h c).2 h.1 = some c := if_pos rfl
theorem hn_ne (h : Hs_t) (c : Ce_t) (q : Nat) (hq : q ≠ h.1) : (hp_N h c).2 q = h.2 q := if_neg hq
theorem T_over (top : Nat) (k x : Int32) (h : Hs_t) (hg : gd_B k x = true) : ∃ h', f_T_layerOver top k x h = re_A h.1 h' ∧ RC top h.1 h' (nl_L k x) ∧ h'.1 = h.1 + 1 + tw_L (nl_L k x) ∧ ly_O (nl_L k x) ∧ (∃ t, tg_O h' h.1 = some t ∧ [2, 3, 4, 5, 6, 7].contains t = true) ∧ ∀ q, q < h.1 → h'.2 q = h.2 q := by
  rw [f_T_layerOver]
  unfold gd_B at hg
  unfold nl_L
  by_cases k1 : k = 1
  · simp only [k1, if_true] at hg ⊢
    simp only [Bool.and_eq_true, Bool.not_eq_true', decide_eq_false_iff_not] at hg
    have h16 : x ≤ 16 := by rw [Int32.le_iff_toInt_le]; have := hg.2; rw [Int32.lt_iff_toInt_lt] at this; omega
    obtain ⟨n, rfl, n1, n2⟩ := rg (lo := 1) (hi := 16) hg.1 h16 (by omega) (by omega)
    have e32 : (32 : Int32) + ni n = ni (32 + n) := ni_add 32 n
    have n3 : (ni (32 + n)).toNatClampNeg = 32 + n := ni_nat (by omega)
    rw [ni_nat (by omega)]
    simp only [nw_O, nw_I, f_Buf_init, f_Str_init, fd_I, fd_V, fd_A, pt_V, pt_Z, ar_I, ar_Z, ar_R, as_I, as_Z, cp_I, ln_A, ck_T, tg_O, hp_2, List.contains_cons, List.contains_nil, List.getElem?_cons_zero, List.getElem?_cons_succ, List.set_cons_succ, List.set_cons_zero, List.length_cons, List.length_nil, Option.bind_some, Option.bind_none, Nat.reduceLT, Nat.reduceAdd, Nat.reduceBEq, BEq.rfl, beq_self_eq_true, Bool.or_false, Bool.or_true, Bool.true_or, Bool.false_or, decide_true, decide_false, Bool.not_false, Bool.not_true, Nat.zero_lt_succ, Nat.lt_add_left_iff_pos, Nat.succ_ne_self, ne_eq, not_false_eq_true, eq_self, if_true, if_false, ite_true, ite_false, bd_I, bd_V, bd_A, bd_L, re_I, re_V, Bool.true_and, Bool.and_true, reduceIte, reduceCtorEq, ↓reduceIte, Nat.reduceEqDiff, hn_2, hn_1, hp_1, e32, n3, ni_nn (show 32 + n < 2147483648 by omega), show decide (32 + n ≤ 48) = true from decide_eq_true (by omega), show ¬ h.1 = h.1 + 1 by omega]
    refine ⟨_, rfl, ⟨0, fun _ => 0, 0, 0, hp_at _ _ _, by rw [hp_ne _ _ _ _ (by omega)]; exact if_pos rfl, rfl, rfl, by simp, rfl⟩, rfl, ⟨n1, n2, by_nil, by_nil, by simp, rfl⟩, ⟨3, by simp only [tg_O, hp_at], by decide⟩, fun q hq => ?_⟩
    rw [hp_ne _ _ _ _ (by omega), hn_ne _ _ _ (show q ≠ h.1 + 1 by omega), hp_ne _ _ _ _ (by omega), hp_ne _ _ _ _ (by omega), hn_ne _ _ _ (by omega)]
  · by_cases k2 : k = 2
    · subst k2
      simp only [show ((2 : Int32) = 1) = False by decide, if_true, if_false] at hg ⊢
      simp only [Bool.and_eq_true, Bool.not_eq_true', decide_eq_false_iff_not] at hg
      have h16 : x ≤ 8 := by rw [Int32.le_iff_toInt_le]; have := hg.2; rw [Int32.lt_iff_toInt_lt] at this; omega
      obtain ⟨n, rfl, n1, n2⟩ := rg (lo := 1) (hi := 8) hg.1 h16 (by omega) (by omega)
      rw [ni_nat (by omega)]
      simp only [nw_O, nw_I, f_Psh_init, f_Str_init, fd_I, fd_V, fd_A, pt_V, pt_Z, ar_I, ar_Z, ar_R, as_I, as_Z, cp_I, ln_A, ck_T, tg_O, hp_2, List.contains_cons, List.contains_nil, List.getElem?_cons_zero, List.getElem?_cons_succ, List.set_cons_succ, List.set_cons_zero, List.length_cons, List.length_nil, Option.bind_some, Option.bind_none, Nat.reduceLT, Nat.reduceAdd, Nat.reduceBEq, BEq.rfl, beq_self_eq_true, Bool.or_false, Bool.or_true, Bool.true_or, Bool.false_or, decide_true, decide_false, Bool.not_false, Bool.not_true, Nat.zero_lt_succ, Nat.lt_add_left_iff_pos, Nat.succ_ne_self, ne_eq, not_false_eq_true, eq_self, if_true, if_false, ite_true, ite_false, bd_I, bd_V, bd_A, bd_L, re_I, re_V, Bool.true_and, Bool.and_true, reduceIte, reduceCtorEq, ↓reduceIte, Nat.reduceEqDiff, hn_2, hn_1, hp_1, ni_nat (show n < 2147483648 by omega), ni_nn (show n < 2147483648 by omega), show decide (n ≤ 8) = true from decide_eq_true (by omega), show ¬ h.1 = h.1 + 1 by omega, show ((2 : Int32) = 1) = False by decide]
      refine ⟨_, rfl, ⟨fun _ => 0, hp_at _ _ _, by rw [hp_ne _ _ _ _ (by omega)]; exact if_pos rfl, rfl⟩, rfl, ⟨n1, n2, by_nil, by simp⟩, ⟨4, by simp only [tg_O, hp_at], by decide⟩, fun q hq => ?_⟩
      rw [hp_ne _ _ _ _ (by omega), hn_ne _ _ _ (show q ≠ h.1 + 1 by omega), hp_ne _ _ _ _ (by omega), hn_ne _ _ _ (by omega)]
    · by_cases k3 : k = 3
      · subst k3
        simp only [show ((3 : Int32) = 1) = False by decide, show ((3 : Int32) = 2) = False by decide, if_true, if_false] at hg ⊢
        simp only [Bool.and_eq_true, Bool.not_eq_true', decide_eq_false_iff_not] at hg
        have h16 : x ≤ 200 := by rw [Int32.le_iff_toInt_le]; have := hg.2; rw [Int32.lt_iff_toInt_lt] at this; omega
        obtain ⟨n, rfl, n1, n2⟩ := rg (lo := 0) (hi := 200) hg.1 h16 (by omega) (by omega)
        rw [ni_nat (by omega)]
        simp only [nw_O, f_Lim_init, f_Pas_init, f_Str_init, fd_I, fd_V, fd_A, pt_V, pt_Z, ar_I, ar_Z, ar_R, as_I, as_Z, cp_I, ln_A, ck_T, tg_O, hp_2, List.contains_cons, List.contains_nil, List.getElem?_cons_zero, List.getElem?_cons_succ, List.set_cons_succ, List.set_cons_zero, List.length_cons, List.length_nil, Option.bind_some, Option.bind_none, Nat.reduceLT, Nat.reduceAdd, Nat.reduceBEq, BEq.rfl, beq_self_eq_true, Bool.or_false, Bool.or_true, Bool.true_or, Bool.false_or, decide_true, decide_false, Bool.not_false, Bool.not_true, Nat.zero_lt_succ, Nat.lt_add_left_iff_pos, Nat.succ_ne_self, ne_eq, not_false_eq_true, eq_self, if_true, if_false, ite_true, ite_false, bd_I, bd_V, bd_A, bd_L, re_I, re_V, Bool.true_and, Bool.and_true, reduceIte, reduceCtorEq, ↓reduceIte, Nat.reduceEqDiff, hn_2, hn_1, hp_1, show ((3 : Int32) = 1) = False by decide, show ((3 : Int32) = 2) = False by decide]
        refine ⟨_, rfl, hp_at _ _ _, rfl, ⟨n2, n2⟩, ⟨5, by simp only [tg_O, hp_at], by decide⟩, fun q hq => ?_⟩
        rw [hp_ne _ _ _ _ (by omega), hp_ne _ _ _ _ (by omega), hp_ne _ _ _ _ (by omega), hn_ne _ _ _ (by omega)]
      · by_cases k4 : k = 4
        · subst k4
          simp only [show ((4 : Int32) = 1) = False by decide, show ((4 : Int32) = 2) = False by decide, show ((4 : Int32) = 3) = False by decide, if_true, if_false] at hg ⊢
          simp only [nw_O, f_Cod_init, f_Pas_init, f_Str_init, fd_I, fd_V, fd_A, pt_V, pt_Z, ar_I, ar_Z, ar_R, as_I, as_Z, cp_I, ln_A, ck_T, tg_O, hp_2, List.contains_cons, List.contains_nil, List.getElem?_cons_zero, List.getElem?_cons_succ, List.set_cons_succ, List.set_cons_zero, List.length_cons, List.length_nil, Option.bind_some, Option.bind_none, Nat.reduceLT, Nat.reduceAdd, Nat.reduceBEq, BEq.rfl, beq_self_eq_true, Bool.or_false, Bool.or_true, Bool.true_or, Bool.false_or, decide_true, decide_false, Bool.not_false, Bool.not_true, Nat.zero_lt_succ, Nat.lt_add_left_iff_pos, Nat.succ_ne_self, ne_eq, not_false_eq_true, eq_self, if_true, if_false, ite_true, ite_false, bd_I, bd_V, bd_A, bd_L, re_I, re_V, Bool.true_and, Bool.and_true, reduceIte, reduceCtorEq, ↓reduceIte, Nat.reduceEqDiff, hn_2, hn_1, hp_1, show ((4 : Int32) = 1) = False by decide, show ((4 : Int32) = 2) = False by decide, show ((4 : Int32) = 3) = False by decide]
          refine ⟨_, rfl, hp_at _ _ _, rfl, trivial, ⟨6, by simp only [tg_O, hp_at], by decide⟩, fun q hq => ?_⟩
          rw [hp_ne _ _ _ _ (by omega), hp_ne _ _ _ _ (by omega), hn_ne _ _ _ (by omega)]
        · simp only [k1, k2, k3, k4, if_false] at hg ⊢
          simp only [nw_O, f_Lin_init, f_Pas_init, f_Str_init, fd_I, fd_V, fd_A, pt_V, pt_Z, ar_I, ar_Z, ar_R, as_I, as_Z, cp_I, ln_A, ck_T, tg_O, hp_2, List.contains_cons, List.contains_nil, List.getElem?_cons_zero, List.getElem?_cons_succ, List.set_cons_succ, List.set_cons_zero, List.length_cons, List.length_nil, Option.bind_some, Option.bind_none, Nat.reduceLT, Nat.reduceAdd, Nat.reduceBEq, BEq.rfl, beq_self_eq_true, Bool.or_false, Bool.or_true, Bool.true_or, Bool.false_or, decide_true, decide_false, Bool.not_false, Bool.not_true, Nat.zero_lt_succ, Nat.lt_add_left_iff_pos, Nat.succ_ne_self, ne_eq, not_false_eq_true, eq_self, if_true, if_false, ite_true, ite_false, bd_I, bd_V, bd_A, bd_L, re_I, re_V, Bool.true_and, Bool.and_true, reduceIte, reduceCtorEq, ↓reduceIte, Nat.reduceEqDiff, hn_2, hn_1, hp_1]
          refine ⟨_, rfl, hp_at _ _ _, rfl, ⟨Or.inl rfl, Or.inl rfl⟩, ⟨7, by simp only [tg_O, hp_at], by decide⟩, fun q hq => ?_⟩
          rw [hp_ne _ _ _ _ (by omega), hn_ne _ _ _ (by omega)]
theorem T_push {b : Nat} {as : List Nat} {h : Hs_t} {w : Wd_t} (hT : RTw b as h w) (hv : wv_O w) (k x : Int32) : TR b h (f_T_push b k x h) (op_push w k x).1 (op_push w k x).2 := by
  obtain ⟨ls, s, lv, lvm, cl, bag, lt⟩ := w
  have hT : RT b as h ls s lv lvm cl bag lt := hT
  rw [f_T_push, T_gd]
  simp only [op_push]
  cases hg : gd_B k x with
  | false =>
    simp only [bI, re_Z0, bd_I, if_true, Bool.false_eq_true, if_false]
    exact T_throw hT (FK.refl _ _) 9
  | true =>
    have hT' := hT
    obtain ⟨a1, ⟨fR, a2, a2'⟩, a3, a4, a5, a6, a7, a8, a9, a10, a11, a12⟩ := hT
    have t1 := tp_ge a10
    simp only [bI, re_Z1, bd_I, show ((1 : Int32) = 0) = False by decide, if_false, if_true, fd_I, fd_V, fd_A, pt_V, pt_Z, ar_I, ar_Z, ar_R, as_I, as_Z, cp_I, ln_A, ck_T, tg_O, hp_2, List.contains_cons, List.contains_nil, List.getElem?_cons_zero, List.getElem?_cons_succ, List.set_cons_succ, List.set_cons_zero, List.length_cons, List.length_nil, Option.bind_some, Option.bind_none, Nat.reduceLT, Nat.reduceAdd, Nat.reduceBEq, BEq.rfl, beq_self_eq_true, Bool.or_false, Bool.or_true, Bool.true_or, Bool.false_or, decide_true, decide_false, Bool.not_false, Bool.not_true, Nat.zero_lt_succ, Nat.lt_add_left_iff_pos, Nat.succ_ne_self, ne_eq, not_false_eq_true, eq_self, if_true, if_false, ite_true, ite_false, bd_I, bd_V, bd_A, bd_L, re_I, re_V, Bool.true_and, Bool.and_true, reduceIte, reduceCtorEq, ↓reduceIte, Nat.reduceEqDiff, a1]
    by_cases hc : cl = 0
    · simp only [hc, if_true]
      subst hc
      by_cases hl : ls.length < 5
      · rw [if_pos (show ni ls.length < 5 from niT (b := 5) (by omega) (by omega) hl), if_pos hl]
        obtain ⟨h2, e1, e2, e3, e4, ⟨tt, e5, e5'⟩, e6⟩ := T_over (hd_N2 b as) k x h hg
        have c1 : h2.2 b = _ := (e6 b (by omega)).trans a1
        have c5 : h2.2 (b + 5) = _ := (e6 (b + 5) (by omega)).trans a2
        have r1 : in_R (ni ls.length) 5 = true := ni_in_t (by omega) hl
        have r2 : (ni ls.length).toNatClampNeg = ls.length := ni_nat (by omega)
        have tgo : ∀ c : Ce_t, tg_O (hp_S h2 b c) h.1 = some tt := by
          intro c
          unfold tg_O at e5 ⊢
          rw [hp_ne _ _ _ _ (by omega)]; exact e5
        have hasR : ∀ c : Ce_t, as_R [2, 3, 4, 5, 6, 7] (hp_S h2 b c) (b + 5) (ni ls.length) h.1 = some (hp_S (hp_S h2 b c) (b + 5) (ce_R 5 (va_up fR ls.length (some h.1)))) := by
          intro c
          unfold as_R
          rw [hp_ne _ _ _ _ (by omega), c5]
          simp only [tgo, e5', r1, r2, Bool.and_self, if_true]
        simp only [e1, re_A, fd_I, fd_V, fd_A, pt_V, pt_Z, ar_I, ar_Z, ar_R, as_I, as_Z, cp_I, ln_A, ck_T, tg_O, hp_2, List.contains_cons, List.contains_nil, List.getElem?_cons_zero, List.getElem?_cons_succ, List.set_cons_succ, List.set_cons_zero, List.length_cons, List.length_nil, Option.bind_some, Option.bind_none, Nat.reduceLT, Nat.reduceAdd, Nat.reduceBEq, BEq.rfl, beq_self_eq_true, Bool.or_false, Bool.or_true, Bool.true_or, Bool.false_or, decide_true, decide_false, Bool.not_false, Bool.not_true, Nat.zero_lt_succ, Nat.lt_add_left_iff_pos, Nat.succ_ne_self, ne_eq, not_false_eq_true, eq_self, if_true, if_false, ite_true, ite_false, bd_I, bd_V, bd_A, bd_L, re_I, re_V, Bool.true_and, Bool.and_true, reduceIte, reduceCtorEq, ↓reduceIte, Nat.reduceEqDiff, c1, hasR, show ¬ b + 5 = b by omega, show ¬ b = b + 5 by omega, ni_p1, ni_s1]
        refine ⟨_, (2 * h.1 + tw_L (nl_L k x)) :: as, rfl, ?_, ?_⟩
        · have tw01 : tw_L (nl_L k x) = 0 ∨ tw_L (nl_L k x) = 1 := by
            generalize nl_L k x = L
            match L with
            | .inl _ => exact Or.inr rfl
            | .inr (.inl _) => exact Or.inr rfl
            | .inr (.inr _) => exact Or.inl rfl
          have ea : (2 * h.1 + tw_L (nl_L k x)) / 2 = h.1 := by omega
          have ew : (2 * h.1 + tw_L (nl_L k x)) % 2 = tw_L (nl_L k x) := by omega
          generalize hh3 : hp_S (hp_S (hp_S h2 b _) (b + 5) _) b _ = h3
          have hq : ∀ q, q ≠ b → q ≠ b + 5 → h3.2 q = h2.2 q := fun q q1 q2 => by rw [← hh3, hp_ne _ _ _ _ q1, hp_ne _ _ _ _ q2, hp_ne _ _ _ _ q1]
          have hq2 : ∀ q, q ≠ b → q ≠ b + 5 → q < h.1 → h3.2 q = h.2 q := fun q q1 q2 q3 => by rw [hq q q1 q2, e6 q q3]
          have h31 : h3.1 = h2.1 := by rw [← hh3]; rfl
          show RT b _ h3 (nl_L k x :: ls) s lv lvm 0 bag lt
          refine ⟨?_, ⟨va_up fR ls.length (some h.1), ?_, fun j hj => ?_⟩, ?_, ?_, ?_, ?_, ?_, ⟨⟨?_, ew⟩, a8.frame a10 fun q q1 q2 => hq2 q (by omega) (by omega) (by omega)⟩, a9.frame fun q q1 q2 => hq2 q (by omega) (by omega) (by omega), ⟨by rw [ea]; exact a12, a10⟩, by simp only [List.length_cons, a11], ?_⟩
          · rw [← hh3, hp_at]
            simp only [hd_N2, ea, List.length_cons]
          · rw [← hh3, hp_ne _ _ _ _ (by omega), hp_at]
          · simp only [va_up, List.reverse_cons]
            by_cases q1 : j = ls.length
            · rw [if_pos q1, List.getElem?_append_right (by rw [List.length_reverse]; omega), List.length_reverse, a11, q1, Nat.sub_self]
              simp only [List.getElem?_cons_zero, Option.map_some, ea]
            · rw [if_neg q1, a2' j hj]
              by_cases q2 : j < ls.length
              · rw [List.getElem?_append_left (by rw [List.length_reverse]; omega)]
              · rw [List.getElem?_eq_none (by rw [List.length_reverse]; omega), List.getElem?_eq_none (by simp; omega)]
          · rw [hq2 _ (by omega) (by omega) (by omega)]; exact a3
          · rw [hq2 _ (by omega) (by omega) (by omega)]; exact a4
          · rw [hq2 _ (by omega) (by omega) (by omega)]; exact a5
          · rw [hq2 _ (by omega) (by omega) (by omega)]; exact a6
          · rw [hq2 _ (by omega) (by omega) (by omega)]; exact a7
          · rw [ea]
            exact e2.frame (hq _ (by omega) (by omega)) (fun _ => hq _ (by omega) (by omega))
          · rw [h31, e3]; simp only [tp_N, ea, ew]; exact Nat.le_refl _
        · intro q q1 q2
          rw [hp_ne _ _ _ _ (by omega), hp_ne _ _ _ _ (by omega), hp_ne _ _ _ _ (by omega), e6 q (by omega)]
      · rw [if_neg (show ¬ ni ls.length < 5 from niNT (b := 5) (by have : ls.length ≤ 5 := hv.2.1; omega) (by omega) (by omega)), if_neg hl]
        exact T_throw hT' (FK.refl _ _) 10
    · simp only [hc, if_false]
      exact T_throw hT' (FK.refl _ _) 10
