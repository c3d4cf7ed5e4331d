/-! push (reference), mark and reset. -/
theorem M_push {m : Nat} {h : Hs_t} {g : Mg_t} {w : Wd_t} (hR : RWw g w) (hv : wv_O w) (k x : Int32) : MO m h (f_M_push m k x (MH m g h)) (op_push w k x).1 (fun t => if t = 9 then 1 else 2) (some (.int 0)) (op_push w k x).2 := by
  obtain ⟨ls, s, lv, lvm, cl, bag, lt⟩ := w
  have hR : RW g ls s lv lvm cl bag lt := hR
  have hv1 : iv_O ls s := hv.1
  have v2 : ls.length ≤ 5 := hv.2.1
  have e21 : g.1 21 = cl := hR.2.2.2.1
  have e6 := hR.2.2.1
  rw [M_gd, f_M_push_b87]
  simp only [op_push]
  cases hg : gd_B k x with
  | false =>
    simp only [bI, if_true, Bool.false_eq_true, if_false, f_M_push_b119, mI_0, mP_0, mI_4, mP_4, mI_5, mP_5, mI_6, mP_6, mI_20, mP_20, mI_21, mP_21, mI_22, mP_22, mI_23, mP_23, mI_25, mP_25, mI_27, mP_27, mR_1, mG_1, mS_1, mR_2, mG_2, mS_2, mR_3, mG_3, mS_3, mR_7, mG_7, mS_7, mR_8, mG_8, mS_8, mR_9, mG_9, mS_9, mR_10, mG_10, mS_10, mR_11, mG_11, mS_11, mR_12, mG_12, mS_12, mR_13, mG_13, mS_13, mR_14, mG_14, mS_14, mR_15, mG_15, mS_15, mR_16, mG_16, mS_16, mR_17, mG_17, mS_17, mR_18, mG_18, mS_18, mR_19, mG_19, mS_19, mR_24, mG_24, mS_24, mR_26, mG_26, mS_26, mK_8, gS_1, gS_2, gA_1, gA_2, Option.bind_some, Option.bind_none, eq_self, if_true, if_false, ite_true, ite_false, bd_I, bd_V, bd_A, bd_L, re_I, re_V, Bool.true_and, Bool.and_true, reduceIte, reduceCtorEq, ↓reduceIte, Nat.reduceEqDiff, show ¬ ((1 : Int32) ≤ 0) by decide]
    exact ⟨_, rfl, hR.cd 1, rfl⟩
  | true =>
    simp only [bI, show ((1 : Int32) = 0) = False by decide, if_false, if_true, mI_0, mP_0, mI_4, mP_4, mI_5, mP_5, mI_6, mP_6, mI_20, mP_20, mI_21, mP_21, mI_22, mP_22, mI_23, mP_23, mI_25, mP_25, mI_27, mP_27, mR_1, mG_1, mS_1, mR_2, mG_2, mS_2, mR_3, mG_3, mS_3, mR_7, mG_7, mS_7, mR_8, mG_8, mS_8, mR_9, mG_9, mS_9, mR_10, mG_10, mS_10, mR_11, mG_11, mS_11, mR_12, mG_12, mS_12, mR_13, mG_13, mS_13, mR_14, mG_14, mS_14, mR_15, mG_15, mS_15, mR_16, mG_16, mS_16, mR_17, mG_17, mS_17, mR_18, mG_18, mS_18, mR_19, mG_19, mS_19, mR_24, mG_24, mS_24, mR_26, mG_26, mS_26, mK_8, gS_1, gS_2, gA_1, gA_2, Option.bind_some, Option.bind_none, e21, e6]
    by_cases hc : cl = 0
    · simp only [hc, if_true]
      subst hc
      by_cases hl : ls.length < 5
      · rw [if_neg (show ¬ ni ls.length = 5 from niNE (b := 5) (by omega) (by omega) (by omega)), if_pos hl]
        have h1 : in_R (ni ls.length) 5 = true := ni_in_t (by omega) hl
        have h2 : (ni ls.length).toNatClampNeg = ls.length := ni_nat (by omega)
        have z0 : is_Z 0 = true := by decide
        obtain ⟨b1, b2, b3, b4, b5, b6, b7, b8, b9, b10⟩ := hR
        have fin : ∀ st : Int32, (st = if k = 3 then x else 0) → MR m h (f_M_push_b169 m (ni ls.length) st (ni ls.length) (m + 6) (MH m (gA (gA (gS g 0 0) 7 (upd (g.2 7) ls.length k)) 8 (upd (g.2 8) ls.length x)) h)) (some (.int (ni ls.length))) 0 (nl_L k x :: ls, s, lv, lvm, 0, bag, lt) := by
          intro st hst
          rw [f_M_push_b169]
          simp only [mI_0, mP_0, mI_4, mP_4, mI_5, mP_5, mI_6, mP_6, mI_20, mP_20, mI_21, mP_21, mI_22, mP_22, mI_23, mP_23, mI_25, mP_25, mI_27, mP_27, mR_1, mG_1, mS_1, mR_2, mG_2, mS_2, mR_3, mG_3, mS_3, mR_7, mG_7, mS_7, mR_8, mG_8, mS_8, mR_9, mG_9, mS_9, mR_10, mG_10, mS_10, mR_11, mG_11, mS_11, mR_12, mG_12, mS_12, mR_13, mG_13, mS_13, mR_14, mG_14, mS_14, mR_15, mG_15, mS_15, mR_16, mG_16, mS_16, mR_17, mG_17, mS_17, mR_18, mG_18, mS_18, mR_19, mG_19, mS_19, mR_24, mG_24, mS_24, mR_26, mG_26, mS_26, mK_8, gS_1, gS_2, gA_1, gA_2, Option.bind_some, Option.bind_none, eq_self, if_true, if_false, ite_true, ite_false, bd_I, bd_V, bd_A, bd_L, re_I, re_V, Bool.true_and, Bool.and_true, reduceIte, reduceCtorEq, ↓reduceIte, Nat.reduceEqDiff, h1, h2, z0, e6, ni_p1, upd]
          refine ⟨_, rfl, ⟨⟨?_, ?_⟩, b2, rfl, b4, b5, b6, b7, b8, b9, b10⟩, rfl⟩
          · unfold nl_L
            unfold gd_B at hg
            by_cases k1 : k = 1
            · subst k1
              simp only [if_true] at hg ⊢
              simp only [Bool.and_eq_true, Bool.not_eq_true', decide_eq_false_iff_not] at hg
              obtain ⟨n, rfl, hn⟩ := ni_of (show ¬ x < 0 from fun e => hg.1 (by rw [Int32.lt_iff_toInt_lt] at *; have e1 : (0 : Int32).toInt = 0 := by decide
                                                                                have e2 : (1 : Int32).toInt = 1 := by decide
                                                                                omega))
              rw [ni_nat hn]
              refine ⟨(by simp only [gS_2, gA_2, upd, eq_self, if_true, if_false, ite_true, ite_false, bd_I, bd_V, bd_A, bd_L, re_I, re_V, Bool.true_and, Bool.and_true, reduceIte, reduceCtorEq, ↓reduceIte, Nat.reduceEqDiff, true_or, and_self]), (by simp only [gS_2, gA_2, upd, eq_self, if_true, if_false, ite_true, ite_false, bd_I, bd_V, bd_A, bd_L, re_I, re_V, Bool.true_and, Bool.and_true, reduceIte, reduceCtorEq, ↓reduceIte, Nat.reduceEqDiff, true_or, and_self]), (by simp only [gS_2, gA_2, upd, eq_self, if_true, if_false, ite_true, ite_false, bd_I, bd_V, bd_A, bd_L, re_I, re_V, Bool.true_and, Bool.and_true, reduceIte, reduceCtorEq, ↓reduceIte, Nat.reduceEqDiff]; rfl), (by simp only [gS_2, gA_2, upd, eq_self, if_true, if_false, ite_true, ite_false, bd_I, bd_V, bd_A, bd_L, re_I, re_V, Bool.true_and, Bool.and_true, reduceIte, reduceCtorEq, ↓reduceIte, Nat.reduceEqDiff]; rfl), rfl, rfl, (by simp only [gS_2, gA_2, upd, eq_self, if_true, if_false, ite_true, ite_false, bd_I, bd_V, bd_A, bd_L, re_I, re_V, Bool.true_and, Bool.and_true, reduceIte, reduceCtorEq, ↓reduceIte, Nat.reduceEqDiff, true_or, and_self])⟩
            · by_cases k2 : k = 2
              · subst k2
                simp only [show ((2 : Int32) = 1) = False by decide, if_true, if_false] at hg ⊢
                simp only [Bool.and_eq_true, Bool.not_eq_true', decide_eq_false_iff_not] at hg
                obtain ⟨n, rfl, hn⟩ := ni_of (show ¬ x < 0 from fun e => hg.1 (by rw [Int32.lt_iff_toInt_lt] at *; have e1 : (0 : Int32).toInt = 0 := by decide
                                                                                  have e2 : (1 : Int32).toInt = 1 := by decide
                                                                                  omega))
                rw [ni_nat hn]
                refine ⟨(by simp only [gS_2, gA_2, upd, eq_self, if_true, if_false, ite_true, ite_false, bd_I, bd_V, bd_A, bd_L, re_I, re_V, Bool.true_and, Bool.and_true, reduceIte, reduceCtorEq, ↓reduceIte, Nat.reduceEqDiff, true_or, and_self]), (by simp only [gS_2, gA_2, upd, eq_self, if_true, if_false, ite_true, ite_false, bd_I, bd_V, bd_A, bd_L, re_I, re_V, Bool.true_and, Bool.and_true, reduceIte, reduceCtorEq, ↓reduceIte, Nat.reduceEqDiff, true_or, and_self]), (by simp only [gS_2, gA_2, upd, eq_self, if_true, if_false, ite_true, ite_false, bd_I, bd_V, bd_A, bd_L, re_I, re_V, Bool.true_and, Bool.and_true, reduceIte, reduceCtorEq, ↓reduceIte, Nat.reduceEqDiff]; rfl), rfl⟩
              · by_cases k3 : k = 3
                · subst k3
                  simp only [show ((3 : Int32) = 1) = False by decide, show ((3 : Int32) = 2) = False by decide, if_true, if_false] at hg hst ⊢
                  simp only [Bool.and_eq_true, Bool.not_eq_true', decide_eq_false_iff_not] at hg
                  obtain ⟨n, rfl, hn⟩ := ni_of hg.1
                  rw [ni_nat hn]
                  subst hst
                  refine ⟨(by simp only [gS_2, gA_2, upd, eq_self, if_true, if_false, ite_true, ite_false, bd_I, bd_V, bd_A, bd_L, re_I, re_V, Bool.true_and, Bool.and_true, reduceIte, reduceCtorEq, ↓reduceIte, Nat.reduceEqDiff, true_or, and_self]), (by simp only [gS_2, gA_2, upd, eq_self, if_true, if_false, ite_true, ite_false, bd_I, bd_V, bd_A, bd_L, re_I, re_V, Bool.true_and, Bool.and_true, reduceIte, reduceCtorEq, ↓reduceIte, Nat.reduceEqDiff, true_or, and_self]), (by simp only [gS_2, gA_2, upd, eq_self, if_true, if_false, ite_true, ite_false, bd_I, bd_V, bd_A, bd_L, re_I, re_V, Bool.true_and, Bool.and_true, reduceIte, reduceCtorEq, ↓reduceIte, Nat.reduceEqDiff, true_or, and_self]), (by simp only [gS_2, gA_2, upd, eq_self, if_true, if_false, ite_true, ite_false, bd_I, bd_V, bd_A, bd_L, re_I, re_V, Bool.true_and, Bool.and_true, reduceIte, reduceCtorEq, ↓reduceIte, Nat.reduceEqDiff, true_or, and_self]), (by simp only [gS_2, gA_2, upd, eq_self, if_true, if_false, ite_true, ite_false, bd_I, bd_V, bd_A, bd_L, re_I, re_V, Bool.true_and, Bool.and_true, reduceIte, reduceCtorEq, ↓reduceIte, Nat.reduceEqDiff, true_or, and_self])⟩
                · by_cases k4 : k = 4
                  · subst k4
                    simp only [show ((4 : Int32) = 1) = False by decide, show ((4 : Int32) = 2) = False by decide, show ((4 : Int32) = 3) = False by decide, if_true, if_false] at hg hst ⊢
                    subst hst
                    refine ⟨(by simp only [gS_2, gA_2, upd, eq_self, if_true, if_false, ite_true, ite_false, bd_I, bd_V, bd_A, bd_L, re_I, re_V, Bool.true_and, Bool.and_true, reduceIte, reduceCtorEq, ↓reduceIte, Nat.reduceEqDiff, true_or, and_self]), (by simp only [gS_2, gA_2, upd, eq_self, if_true, if_false, ite_true, ite_false, bd_I, bd_V, bd_A, bd_L, re_I, re_V, Bool.true_and, Bool.and_true, reduceIte, reduceCtorEq, ↓reduceIte, Nat.reduceEqDiff, true_or, and_self]), (by simp only [gS_2, gA_2, upd, eq_self, if_true, if_false, ite_true, ite_false, bd_I, bd_V, bd_A, bd_L, re_I, re_V, Bool.true_and, Bool.and_true, reduceIte, reduceCtorEq, ↓reduceIte, Nat.reduceEqDiff, true_or, and_self]), (by simp only [gS_2, gA_2, upd, eq_self, if_true, if_false, ite_true, ite_false, bd_I, bd_V, bd_A, bd_L, re_I, re_V, Bool.true_and, Bool.and_true, reduceIte, reduceCtorEq, ↓reduceIte, Nat.reduceEqDiff, true_or, and_self]), (by simp only [gS_2, gA_2, upd, eq_self, if_true, if_false, ite_true, ite_false, bd_I, bd_V, bd_A, bd_L, re_I, re_V, Bool.true_and, Bool.and_true, reduceIte, reduceCtorEq, ↓reduceIte, Nat.reduceEqDiff, true_or, and_self]), (by simp only [gS_2, gA_2, upd, eq_self, if_true, if_false, ite_true, ite_false, bd_I, bd_V, bd_A, bd_L, re_I, re_V, Bool.true_and, Bool.and_true, reduceIte, reduceCtorEq, ↓reduceIte, Nat.reduceEqDiff, true_or, and_self])⟩
                  · by_cases k5 : k = 5
                    · subst k5
                      simp only [show ((5 : Int32) = 1) = False by decide, show ((5 : Int32) = 2) = False by decide, show ((5 : Int32) = 3) = False by decide, show ((5 : Int32) = 4) = False by decide, if_false] at hg hst ⊢
                      subst hst
                      refine ⟨(by simp only [gS_2, gA_2, upd, eq_self, if_true, if_false, ite_true, ite_false, bd_I, bd_V, bd_A, bd_L, re_I, re_V, Bool.true_and, Bool.and_true, reduceIte, reduceCtorEq, ↓reduceIte, Nat.reduceEqDiff, true_or, and_self]), (by simp only [gS_2, gA_2, upd, eq_self, if_true, if_false, ite_true, ite_false, bd_I, bd_V, bd_A, bd_L, re_I, re_V, Bool.true_and, Bool.and_true, reduceIte, reduceCtorEq, ↓reduceIte, Nat.reduceEqDiff, true_or, and_self]), (by simp only [gS_2, gA_2, upd, eq_self, if_true, if_false, ite_true, ite_false, bd_I, bd_V, bd_A, bd_L, re_I, re_V, Bool.true_and, Bool.and_true, reduceIte, reduceCtorEq, ↓reduceIte, Nat.reduceEqDiff, true_or, and_self]), (by simp only [gS_2, gA_2, upd, eq_self, if_true, if_false, ite_true, ite_false, bd_I, bd_V, bd_A, bd_L, re_I, re_V, Bool.true_and, Bool.and_true, reduceIte, reduceCtorEq, ↓reduceIte, Nat.reduceEqDiff, true_or, and_self]), (by simp only [gS_2, gA_2, upd, eq_self, if_true, if_false, ite_true, ite_false, bd_I, bd_V, bd_A, bd_L, re_I, re_V, Bool.true_and, Bool.and_true, reduceIte, reduceCtorEq, ↓reduceIte, Nat.reduceEqDiff, true_or, and_self])⟩
                    · simp only [k1, k2, k3, k4, k5, if_false] at hg
                      cases hg
          · refine RMl.idx (g := g) (s := s) (n := ls.length) (fun k k1 k2 k3 i hi => ?_) (fun j hj => by simp only [gS_2, gA_2, eq_self, if_true, if_false, ite_true, ite_false, bd_I, bd_V, bd_A, bd_L, re_I, re_V, Bool.true_and, Bool.and_true, reduceIte, reduceCtorEq, ↓reduceIte, Nat.reduceEqDiff]) hv1 (Nat.le_refl _) b1
            have hne : ¬ i = ls.length := by omega
            simp only [gS_2, gA_2]
            (repeat' split) <;> (first | rfl | (rename_i hk; subst hk; simp only [upd, hne, if_false]))
        simp only [f_M_push_b119, mI_0, mP_0, mI_4, mP_4, mI_5, mP_5, mI_6, mP_6, mI_20, mP_20, mI_21, mP_21, mI_22, mP_22, mI_23, mP_23, mI_25, mP_25, mI_27, mP_27, mR_1, mG_1, mS_1, mR_2, mG_2, mS_2, mR_3, mG_3, mS_3, mR_7, mG_7, mS_7, mR_8, mG_8, mS_8, mR_9, mG_9, mS_9, mR_10, mG_10, mS_10, mR_11, mG_11, mS_11, mR_12, mG_12, mS_12, mR_13, mG_13, mS_13, mR_14, mG_14, mS_14, mR_15, mG_15, mS_15, mR_16, mG_16, mS_16, mR_17, mG_17, mS_17, mR_18, mG_18, mS_18, mR_19, mG_19, mS_19, mR_24, mG_24, mS_24, mR_26, mG_26, mS_26, mK_8, gS_1, gS_2, gA_1, gA_2, Option.bind_some, Option.bind_none, eq_self, if_true, if_false, ite_true, ite_false, bd_I, bd_V, bd_A, bd_L, re_I, re_V, Bool.true_and, Bool.and_true, reduceIte, reduceCtorEq, ↓reduceIte, Nat.reduceEqDiff, show ((0 : Int32) ≤ 0) = True by decide, e6, h1, h2]
        by_cases k3 : k = 3
        · simp only [k3, if_true] at fin ⊢
          exact fin x rfl
        · simp only [k3, if_false] at fin ⊢
          exact fin 0 rfl
      · have hl5 : ls.length = 5 := by omega
        rw [if_pos (show ni ls.length = 5 by rw [hl5]; rfl), if_neg hl]
        simp only [f_M_push_b114, f_M_push_b119, mI_0, mP_0, mI_4, mP_4, mI_5, mP_5, mI_6, mP_6, mI_20, mP_20, mI_21, mP_21, mI_22, mP_22, mI_23, mP_23, mI_25, mP_25, mI_27, mP_27, mR_1, mG_1, mS_1, mR_2, mG_2, mS_2, mR_3, mG_3, mS_3, mR_7, mG_7, mS_7, mR_8, mG_8, mS_8, mR_9, mG_9, mS_9, mR_10, mG_10, mS_10, mR_11, mG_11, mS_11, mR_12, mG_12, mS_12, mR_13, mG_13, mS_13, mR_14, mG_14, mS_14, mR_15, mG_15, mS_15, mR_16, mG_16, mS_16, mR_17, mG_17, mS_17, mR_18, mG_18, mS_18, mR_19, mG_19, mS_19, mR_24, mG_24, mS_24, mR_26, mG_26, mS_26, mK_8, gS_1, gS_2, gA_1, gA_2, Option.bind_some, Option.bind_none, eq_self, if_true, if_false, ite_true, ite_false, bd_I, bd_V, bd_A, bd_L, re_I, re_V, Bool.true_and, Bool.and_true, reduceIte, reduceCtorEq, ↓reduceIte, Nat.reduceEqDiff, show ¬ ((2 : Int32) ≤ 0) by decide]
        exact ⟨_, rfl, hR.cd 2, rfl⟩
    · simp only [hc, if_false, f_M_push_b114, f_M_push_b119, mI_0, mP_0, mI_4, mP_4, mI_5, mP_5, mI_6, mP_6, mI_20, mP_20, mI_21, mP_21, mI_22, mP_22, mI_23, mP_23, mI_25, mP_25, mI_27, mP_27, mR_1, mG_1, mS_1, mR_2, mG_2, mS_2, mR_3, mG_3, mS_3, mR_7, mG_7, mS_7, mR_8, mG_8, mS_8, mR_9, mG_9, mS_9, mR_10, mG_10, mS_10, mR_11, mG_11, mS_11, mR_12, mG_12, mS_12, mR_13, mG_13, mS_13, mR_14, mG_14, mS_14, mR_15, mG_15, mS_15, mR_16, mG_16, mS_16, mR_17, mG_17, mS_17, mR_18, mG_18, mS_18, mR_19, mG_19, mS_19, mR_24, mG_24, mS_24, mR_26, mG_26, mS_26, mK_8, gS_1, gS_2, gA_1, gA_2, Option.bind_some, Option.bind_none, eq_self, if_true, if_false, ite_true, ite_false, bd_I, bd_V, bd_A, bd_L, re_I, re_V, Bool.true_and, Bool.and_true, reduceIte, reduceCtorEq, ↓reduceIte, Nat.reduceEqDiff, show ¬ ((2 : Int32) ≤ 0) by decide]
      exact ⟨_, rfl, hR.cd 2, rfl⟩
def cmk : List Ly_t → Bool
  | .inl _ :: _ => true
  | .inr (.inr _) :: ls => cmk ls
  | _ => false
def hmk : List Ly_t → Bool
  | .inl (_, _, _, mq) :: _ => mq.isSome
  | .inr (.inr _) :: ls => hmk ls
  | _ => false
def tmk (l : Nat) : List Ly_t → List Ly_t
  | .inl (rm, _, tg, _) :: ls => ly_B rm [] tg (some l) :: ls
  | .inr (.inr (.inl (lf, _))) :: ls => ly_M lf lf :: tmk l ls
  | .inr (.inr (.inr (.inl (key, cd, _)))) :: ls => ly_C key cd cd :: tmk l ls
  | .inr (.inr (.inr (.inr (e, _, cr, _)))) :: ls => ly_N e e cr cr :: tmk l ls
  | ls => ls
def gbk : List Ly_t → List Ly_t
  | .inl (rm, kp, tg, mq) :: ls => ly_B rm [] (kp ++ tg) mq :: ls
  | .inr (.inr (.inl (_, lm))) :: ls => ly_M lm lm :: gbk ls
  | .inr (.inr (.inr (.inl (key, _, cm)))) :: ls => ly_C key cm cm :: gbk ls
  | .inr (.inr (.inr (.inr (_, em, _, crm)))) :: ls => ly_N em em crm crm :: gbk ls
  | ls => ls
theorem T_cmk (b : Nat) (h : Hs_t) (s : Sr_t) : ∀ (as : List Nat) (ls : List Ly_t) (d : Nat), RLc b h as ls → RSc b h s → ls.length + 1 ≤ d → v_canBeMarked d (hd_N2 b as) h = re_Z (bI (cmk ls)) h ∧ v_hasMark d (hd_N2 b as) h = re_Z (bI (hmk ls)) h
  | [], [], d + 1, hR, hS, hd => by
    have a1 := hS.1
    rw [v_canBeMarked, v_hasMark]
    simp only [hd_N2, tg_O, a1, if_true]
    exact ⟨rfl, rfl⟩
  | e :: as, L :: ls, d + 1, hR, hS, hd => by
    have hd' : ls.length + 1 + 1 ≤ d + 1 := hd
    have ih := T_cmk b h s as ls d hR.2 hS (by omega)
    have bb : ∀ x : Bool, re_Z (bI x) h = some (.returned (some (.int (bI x))), h) := by intro x; cases x <;> rfl
    rw [v_canBeMarked, v_hasMark]
    simp only [hd_N2]
    match L, hR with
    | .inl (rm, kp, tg, mq), hR =>
      obtain ⟨fi, f, mz, ml, c0, c1, c2, c3, c4, c5⟩ := hR.1.1
      simp only [tg_O, c0, if_true, if_false, Nat.reduceEqDiff, f_Buf_canBeMarked, f_Buf_hasMark, fd_I, fd_V, fd_A, pt_V, pt_Z, ar_I, ar_Z, ar_R, as_I, as_Z, cp_I, ln_A, ck_T, tg_O, hp_2, List.contains_cons, List.contains_nil, List.getElem?_cons_zero, List.getElem?_cons_succ, List.set_cons_succ, List.set_cons_zero, List.length_cons, List.length_nil, Option.bind_some, Option.bind_none, Nat.reduceLT, Nat.reduceAdd, Nat.reduceBEq, BEq.rfl, beq_self_eq_true, Bool.or_false, Bool.or_true, Bool.true_or, Bool.false_or, decide_true, decide_false, Bool.not_false, Bool.not_true, Nat.zero_lt_succ, Nat.lt_add_left_iff_pos, Nat.succ_ne_self, ne_eq, not_false_eq_true, eq_self, if_true, if_false, ite_true, ite_false, bd_I, bd_V, bd_A, bd_L, re_I, re_V, Bool.true_and, Bool.and_true, reduceIte, reduceCtorEq, ↓reduceIte, Nat.reduceEqDiff]
      refine ⟨rfl, ?_⟩
      cases mq with
      | none => rw [show mz = 0 from c5]; rfl
      | some l => rw [show mz = 1 from c5.1]; rfl
    | .inr (.inl (rm, st)), hR =>
      obtain ⟨f, c0, c1⟩ := hR.1.1
      simp only [tg_O, c0, if_true, if_false, Nat.reduceEqDiff]
      exact ⟨rfl, rfl⟩
    | .inr (.inr (.inl (lf, lm))), hR =>
      have c0 : h.2 (e / 2) = some (ce_O 5 [.ref (hd_N2 b as), .int (ni lf), .int (ni lm)]) := hR.1.1
      simp only [tg_O, c0, if_true, if_false, Nat.reduceEqDiff, f_Pas_canBeMarked, f_Pas_hasMark, fd_I, fd_V, fd_A, pt_V, pt_Z, ar_I, ar_Z, ar_R, as_I, as_Z, cp_I, ln_A, ck_T, tg_O, hp_2, List.contains_cons, List.contains_nil, List.getElem?_cons_zero, List.getElem?_cons_succ, List.set_cons_succ, List.set_cons_zero, List.length_cons, List.length_nil, Option.bind_some, Option.bind_none, Nat.reduceLT, Nat.reduceAdd, Nat.reduceBEq, BEq.rfl, beq_self_eq_true, Bool.or_false, Bool.or_true, Bool.true_or, Bool.false_or, decide_true, decide_false, Bool.not_false, Bool.not_true, Nat.zero_lt_succ, Nat.lt_add_left_iff_pos, Nat.succ_ne_self, ne_eq, not_false_eq_true, eq_self, if_true, if_false, ite_true, ite_false, bd_I, bd_V, bd_A, bd_L, re_I, re_V, Bool.true_and, Bool.and_true, reduceIte, reduceCtorEq, ↓reduceIte, Nat.reduceEqDiff, ih.1, ih.2, bb, cmk, hmk]
      exact ⟨trivial, trivial⟩
    | .inr (.inr (.inr (.inl (key, cd, cm)))), hR =>
      have c0 : h.2 (e / 2) = some (ce_O 6 [.ref (hd_N2 b as), .int key, .int cd, .int cm]) := hR.1.1
      simp only [tg_O, c0, if_true, if_false, Nat.reduceEqDiff, f_Pas_canBeMarked, f_Pas_hasMark, fd_I, fd_V, fd_A, pt_V, pt_Z, ar_I, ar_Z, ar_R, as_I, as_Z, cp_I, ln_A, ck_T, tg_O, hp_2, List.contains_cons, List.contains_nil, List.getElem?_cons_zero, List.getElem?_cons_succ, List.set_cons_succ, List.set_cons_zero, List.length_cons, List.length_nil, Option.bind_some, Option.bind_none, Nat.reduceLT, Nat.reduceAdd, Nat.reduceBEq, BEq.rfl, beq_self_eq_true, Bool.or_false, Bool.or_true, Bool.true_or, Bool.false_or, decide_true, decide_false, Bool.not_false, Bool.not_true, Nat.zero_lt_succ, Nat.lt_add_left_iff_pos, Nat.succ_ne_self, ne_eq, not_false_eq_true, eq_self, if_true, if_false, ite_true, ite_false, bd_I, bd_V, bd_A, bd_L, re_I, re_V, Bool.true_and, Bool.and_true, reduceIte, reduceCtorEq, ↓reduceIte, Nat.reduceEqDiff, ih.1, ih.2, bb, cmk, hmk]
      exact ⟨trivial, trivial⟩
    | .inr (.inr (.inr (.inr (q, em, cr, crm)))), hR =>
      have c0 : h.2 (e / 2) = some (ce_O 7 [.ref (hd_N2 b as), .int q, .int em, .int cr, .int crm]) := hR.1.1
      simp only [tg_O, c0, if_true, if_false, Nat.reduceEqDiff, f_Pas_canBeMarked, f_Pas_hasMark, fd_I, fd_V, fd_A, pt_V, pt_Z, ar_I, ar_Z, ar_R, as_I, as_Z, cp_I, ln_A, ck_T, tg_O, hp_2, List.contains_cons, List.contains_nil, List.getElem?_cons_zero, List.getElem?_cons_succ, List.set_cons_succ, List.set_cons_zero, List.length_cons, List.length_nil, Option.bind_some, Option.bind_none, Nat.reduceLT, Nat.reduceAdd, Nat.reduceBEq, BEq.rfl, beq_self_eq_true, Bool.or_false, Bool.or_true, Bool.true_or, Bool.false_or, decide_true, decide_false, Bool.not_false, Bool.not_true, Nat.zero_lt_succ, Nat.lt_add_left_iff_pos, Nat.succ_ne_self, ne_eq, not_false_eq_true, eq_self, if_true, if_false, ite_true, ite_false, bd_I, bd_V, bd_A, bd_L, re_I, re_V, Bool.true_and, Bool.and_true, reduceIte, reduceCtorEq, ↓reduceIte, Nat.reduceEqDiff, ih.1, ih.2, bb, cmk, hmk]
      exact ⟨trivial, trivial⟩
  | [], _ :: _, _, hR, _, _ => hR.elim
  | _ :: _, [], _, hR, _, _ => hR.elim
theorem z_01 {x : Int32} (h : x = 0 ∨ x = 1) : is_Z x = true := by rcases h with rfl | rfl <;> decide
theorem T_tmk (b : Nat) (s : Sr_t) (l : Nat) : ∀ (as : List Nat) (ls : List Ly_t) (d : Nat) (h : Hs_t), iv_O ls s → ok_A b as → RLc b h as ls → RSc b h s → ls.length + 1 ≤ d → cmk ls = true → ∃ h', v_takeMark d (hd_N2 b as) (ni l) h = re_V h' ∧ RLc b h' as (tmk l ls) ∧ h'.1 = h.1 ∧ ∀ q, (q < b + 31 ∨ tp_N b as ≤ q) → h'.2 q = h.2 q
  | [], [], d + 1, h, hv, hk, hR, hS, hd, hc => by cases hc
  | e :: as, L :: ls, d + 1, h, hv, hk, hR, hS, hd, hc => by
    have hd' : ls.length + 1 + 1 ≤ d + 1 := hd
    have t1 := tp_ge hk.2
    have t2 := hk.1
    have hfa := fp_a hk
    rw [v_takeMark]
    simp only [hd_N2]
    have pas : cmk ls = true → (∀ t, tg_O h (e / 2) = some t → t = 5 ∨ t = 6 ∨ t = 7) → ∀ c : Ce_t, h.2 (e / 2) = some c → fd_A [5, 6, 7] 0 h (e / 2) = some (hd_N2 b as) → ∃ h1, f_Pas_takeMark (v_takeMark d) (e / 2) (ni l) h = bd_V (v_remember (e / 2) h1) (fun h2 => re_V h2) ∧ RLc b h1 as (tmk l ls) ∧ h1.1 = h.1 ∧ h1.2 (e / 2) = some c ∧ ∀ q, (q < b + 31 ∨ tp_N b as ≤ q) → h1.2 q = h.2 q := by
      intro hc2 _ c c0 fd
      obtain ⟨h1, q1, q2, q3, q4⟩ := T_tmk b s l as ls d h hv.2.2 hk.2 hR.2 hS (by omega) hc2
      refine ⟨h1, ?_, q2, q3, by rw [q4 _ (Or.inr (by omega))]; exact c0, q4⟩
      rw [f_Pas_takeMark, fd]
      simp only [Option.bind_some, q1, bd_V, re_V]
    match L, hv, hR, hc, pas with
    | .inl (rm, kp, tg, mq), hv, hR, hc, pas =>
      obtain ⟨fi, f, mz, ml, c0, c1, c2, c3, c4, c5⟩ := hR.1.1
      have ep : e % 2 = 1 := hR.1.2
      simp only [tg_O, c0, if_true, if_false, Nat.reduceEqDiff, f_Buf_takeMark, fd_I, fd_V, fd_A, pt_V, pt_Z, ar_I, ar_Z, ar_R, as_I, as_Z, cp_I, ln_A, ck_T, tg_O, hp_2, List.contains_cons, List.contains_nil, List.getElem?_cons_zero, List.getElem?_cons_succ, List.set_cons_succ, List.set_cons_zero, List.length_cons, List.length_nil, Option.bind_some, Option.bind_none, Nat.reduceLT, Nat.reduceAdd, Nat.reduceBEq, BEq.rfl, beq_self_eq_true, Bool.or_false, Bool.or_true, Bool.true_or, Bool.false_or, decide_true, decide_false, Bool.not_false, Bool.not_true, Nat.zero_lt_succ, Nat.lt_add_left_iff_pos, Nat.succ_ne_self, ne_eq, not_false_eq_true, eq_self, if_true, if_false, ite_true, ite_false, bd_I, bd_V, bd_A, bd_L, re_I, re_V, Bool.true_and, Bool.and_true, reduceIte, reduceCtorEq, ↓reduceIte, Nat.reduceEqDiff, show is_Z 1 = true by decide]
      refine ⟨_, rfl, ⟨⟨⟨fi + kp.length, f, 1, ni l, ?_, ?_, rfl, c3, by simp only [List.length_nil]; omega, rfl, rfl⟩, ep⟩, hR.2.frame hk.2 fun q q1 q2 => ?_⟩, rfl, fun q hq => ?_⟩
      · rw [hp_at]; simp only [List.length_nil, Nat.add_zero]
      · rw [hp_ne _ _ _ _ (by omega), hp_ne _ _ _ _ (by omega), hp_ne _ _ _ _ (by omega)]; exact c1
      · rw [hp_ne _ _ _ _ (by omega), hp_ne _ _ _ _ (by omega), hp_ne _ _ _ _ (by omega)]
      · have : q ≠ e / 2 := by simp only [tp_N] at hq; omega
        rw [hp_ne _ _ _ _ this, hp_ne _ _ _ _ this, hp_ne _ _ _ _ this]
    | .inr (.inl (rm, st)), hv, hR, hc, pas => cases hc
    | .inr (.inr (.inl (lf, lm))), hv, hR, hc, pas =>
      have c0 : h.2 (e / 2) = some (ce_O 5 [.ref (hd_N2 b as), .int (ni lf), .int (ni lm)]) := hR.1.1
      obtain ⟨h1, p1, p2, p3, p4, p5⟩ := pas hc (fun t ht => by simp only [tg_O, c0] at ht; cases ht; exact Or.inl rfl) _ c0 (by simp only [fd_A, fd_V, c0]; rfl)
      simp only [tg_O, c0, if_true, if_false, Nat.reduceEqDiff, p1, v_remember, p4, f_Lim_remember, fd_I, fd_V, fd_A, pt_V, pt_Z, ar_I, ar_Z, ar_R, as_I, as_Z, cp_I, ln_A, ck_T, tg_O, hp_2, List.contains_cons, List.contains_nil, List.getElem?_cons_zero, List.getElem?_cons_succ, List.set_cons_succ, List.set_cons_zero, List.length_cons, List.length_nil, Option.bind_some, Option.bind_none, Nat.reduceLT, Nat.reduceAdd, Nat.reduceBEq, BEq.rfl, beq_self_eq_true, Bool.or_false, Bool.or_true, Bool.true_or, Bool.false_or, decide_true, decide_false, Bool.not_false, Bool.not_true, Nat.zero_lt_succ, Nat.lt_add_left_iff_pos, Nat.succ_ne_self, ne_eq, not_false_eq_true, eq_self, if_true, if_false, ite_true, ite_false, bd_I, bd_V, bd_A, bd_L, re_I, re_V, Bool.true_and, Bool.and_true, reduceIte, reduceCtorEq, ↓reduceIte, Nat.reduceEqDiff]
      refine ⟨_, rfl, ⟨⟨hp_at _ _ _, hR.1.2⟩, p2.frame hk.2 fun q q1 q2 => hp_ne _ _ _ _ (by omega)⟩, p3, fun q hq => ?_⟩
      have : q ≠ e / 2 ∧ (q < b + 31 ∨ tp_N b as ≤ q) := by simp only [tp_N] at hq; omega
      rw [hp_ne _ _ _ _ this.1, p5 q this.2]
    | .inr (.inr (.inr (.inl (key, cd, cm)))), hv, hR, hc, pas =>
      have c0 : h.2 (e / 2) = some (ce_O 6 [.ref (hd_N2 b as), .int key, .int cd, .int cm]) := hR.1.1
      obtain ⟨h1, p1, p2, p3, p4, p5⟩ := pas hc (fun t ht => by simp only [tg_O, c0] at ht; cases ht; exact Or.inr (Or.inl rfl)) _ c0 (by simp only [fd_A, fd_V, c0]; rfl)
      simp only [tg_O, c0, if_true, if_false, Nat.reduceEqDiff, p1, v_remember, p4, f_Cod_remember, fd_I, fd_V, fd_A, pt_V, pt_Z, ar_I, ar_Z, ar_R, as_I, as_Z, cp_I, ln_A, ck_T, tg_O, hp_2, List.contains_cons, List.contains_nil, List.getElem?_cons_zero, List.getElem?_cons_succ, List.set_cons_succ, List.set_cons_zero, List.length_cons, List.length_nil, Option.bind_some, Option.bind_none, Nat.reduceLT, Nat.reduceAdd, Nat.reduceBEq, BEq.rfl, beq_self_eq_true, Bool.or_false, Bool.or_true, Bool.true_or, Bool.false_or, decide_true, decide_false, Bool.not_false, Bool.not_true, Nat.zero_lt_succ, Nat.lt_add_left_iff_pos, Nat.succ_ne_self, ne_eq, not_false_eq_true, eq_self, if_true, if_false, ite_true, ite_false, bd_I, bd_V, bd_A, bd_L, re_I, re_V, Bool.true_and, Bool.and_true, reduceIte, reduceCtorEq, ↓reduceIte, Nat.reduceEqDiff]
      refine ⟨_, rfl, ⟨⟨hp_at _ _ _, hR.1.2⟩, p2.frame hk.2 fun q q1 q2 => hp_ne _ _ _ _ (by omega)⟩, p3, fun q hq => ?_⟩
      have : q ≠ e / 2 ∧ (q < b + 31 ∨ tp_N b as ≤ q) := by simp only [tp_N] at hq; omega
      rw [hp_ne _ _ _ _ this.1, p5 q this.2]
    | .inr (.inr (.inr (.inr (a, em, cr, crm)))), hv, hR, hc, pas =>
      have c0 : h.2 (e / 2) = some (ce_O 7 [.ref (hd_N2 b as), .int a, .int em, .int cr, .int crm]) := hR.1.1
      obtain ⟨h1, p1, p2, p3, p4, p5⟩ := pas hc (fun t ht => by simp only [tg_O, c0] at ht; cases ht; exact Or.inr (Or.inr rfl)) _ c0 (by simp only [fd_A, fd_V, c0]; rfl)
      simp only [tg_O, c0, if_true, if_false, Nat.reduceEqDiff, p1, v_remember, p4, f_Lin_remember, fd_I, fd_V, fd_A, pt_V, pt_Z, ar_I, ar_Z, ar_R, as_I, as_Z, cp_I, ln_A, ck_T, tg_O, hp_2, List.contains_cons, List.contains_nil, List.getElem?_cons_zero, List.getElem?_cons_succ, List.set_cons_succ, List.set_cons_zero, List.length_cons, List.length_nil, Option.bind_some, Option.bind_none, Nat.reduceLT, Nat.reduceAdd, Nat.reduceBEq, BEq.rfl, beq_self_eq_true, Bool.or_false, Bool.or_true, Bool.true_or, Bool.false_or, decide_true, decide_false, Bool.not_false, Bool.not_true, Nat.zero_lt_succ, Nat.lt_add_left_iff_pos, Nat.succ_ne_self, ne_eq, not_false_eq_true, eq_self, if_true, if_false, ite_true, ite_false, bd_I, bd_V, bd_A, bd_L, re_I, re_V, Bool.true_and, Bool.and_true, reduceIte, reduceCtorEq, ↓reduceIte, Nat.reduceEqDiff, z_01 hv.1.1]
      refine ⟨_, rfl, ⟨⟨hp_at _ _ _, hR.1.2⟩, p2.frame hk.2 fun q q1 q2 => by rw [hp_ne _ _ _ _ (by omega), hp_ne _ _ _ _ (by omega)]⟩, p3, fun q hq => ?_⟩
      have : q ≠ e / 2 ∧ (q < b + 31 ∨ tp_N b as ≤ q) := by simp only [tp_N] at hq; omega
      rw [hp_ne _ _ _ _ this.1, hp_ne _ _ _ _ this.1, p5 q this.2]
  | [], _ :: _, _, _, _, _, hR, _, _, _ => hR.elim
  | _ :: _, [], _, _, _, _, hR, _, _, _ => hR.elim
theorem T_gbk (b : Nat) (s : Sr_t) : ∀ (as : List Nat) (ls : List Ly_t) (d : Nat) (h : Hs_t), iv_O ls s → ok_A b as → RLc b h as ls → RSc b h s → ls.length + 1 ≤ d → cmk ls = true → ∃ h', v_goBack d (hd_N2 b as) h = re_V h' ∧ RLc b h' as (gbk ls) ∧ h'.1 = h.1 ∧ ∀ q, (q < b + 31 ∨ tp_N b as ≤ q) → h'.2 q = h.2 q
  | [], [], d + 1, h, hv, hk, hR, hS, hd, hc => by cases hc
  | e :: as, L :: ls, d + 1, h, hv, hk, hR, hS, hd, hc => by
    have hd' : ls.length + 1 + 1 ≤ d + 1 := hd
    have t1 := tp_ge hk.2
    have t2 := hk.1
    rw [v_goBack]
    simp only [hd_N2]
    have pas : cmk ls = true → ∀ c : Ce_t, h.2 (e / 2) = some c → fd_A [5, 6, 7] 0 h (e / 2) = some (hd_N2 b as) → ∃ h1, f_Pas_goBack (v_goBack d) (e / 2) h = bd_V (v_recall (e / 2) h1) (fun h2 => re_V h2) ∧ RLc b h1 as (gbk ls) ∧ h1.1 = h.1 ∧ h1.2 (e / 2) = some c ∧ ∀ q, (q < b + 31 ∨ tp_N b as ≤ q) → h1.2 q = h.2 q := by
      intro hc2 c c0 fd
      obtain ⟨h1, q1, q2, q3, q4⟩ := T_gbk b s as ls d h hv.2.2 hk.2 hR.2 hS (by omega) hc2
      refine ⟨h1, ?_, q2, q3, by rw [q4 _ (Or.inr (by omega))]; exact c0, q4⟩
      rw [f_Pas_goBack, fd]
      simp only [Option.bind_some, q1, bd_V, re_V]
    match L, hv, hR, hc, pas with
    | .inl (rm, kp, tg, mq), hv, hR, hc, pas =>
      obtain ⟨fi, f, mz, ml, c0, c1, c2, c3, c4, c5⟩ := hR.1.1
      have ep : e % 2 = 1 := hR.1.2
      simp only [tg_O, c0, if_true, if_false, Nat.reduceEqDiff, f_Buf_goBack, fd_I, fd_V, fd_A, pt_V, pt_Z, ar_I, ar_Z, ar_R, as_I, as_Z, cp_I, ln_A, ck_T, tg_O, hp_2, List.contains_cons, List.contains_nil, List.getElem?_cons_zero, List.getElem?_cons_succ, List.set_cons_succ, List.set_cons_zero, List.length_cons, List.length_nil, Option.bind_some, Option.bind_none, Nat.reduceLT, Nat.reduceAdd, Nat.reduceBEq, BEq.rfl, beq_self_eq_true, Bool.or_false, Bool.or_true, Bool.true_or, Bool.false_or, decide_true, decide_false, Bool.not_false, Bool.not_true, Nat.zero_lt_succ, Nat.lt_add_left_iff_pos, Nat.succ_ne_self, ne_eq, not_false_eq_true, eq_self, if_true, if_false, ite_true, ite_false, bd_I, bd_V, bd_A, bd_L, re_I, re_V, Bool.true_and, Bool.and_true, reduceIte, reduceCtorEq, ↓reduceIte, Nat.reduceEqDiff]
      refine ⟨_, rfl, ⟨⟨⟨fi, f, mz, ml, ?_, ?_, rfl, ?_, by simp only [List.length_nil, List.length_append]; omega, c5⟩, ep⟩, hR.2.frame hk.2 fun q q1 q2 => ?_⟩, rfl, fun q hq => ?_⟩
      · rw [hp_at]; simp only [List.length_nil, Nat.add_zero, List.length_append, Nat.add_assoc]
      · rw [hp_ne _ _ _ _ (by omega)]; exact c1
      · simp only [List.length_nil, Nat.add_zero, List.length_append]; rw [sl_app, c2, c3]
      · rw [hp_ne _ _ _ _ (by omega)]
      · have : q ≠ e / 2 := by simp only [tp_N] at hq; omega
        rw [hp_ne _ _ _ _ this]
    | .inr (.inl (rm, st)), hv, hR, hc, pas => cases hc
    | .inr (.inr (.inl (lf, lm))), hv, hR, hc, pas =>
      have c0 : h.2 (e / 2) = some (ce_O 5 [.ref (hd_N2 b as), .int (ni lf), .int (ni lm)]) := hR.1.1
      obtain ⟨h1, p1, p2, p3, p4, p5⟩ := pas hc _ c0 (by simp only [fd_A, fd_V, c0]; rfl)
      simp only [tg_O, c0, if_true, if_false, Nat.reduceEqDiff, p1, v_recall, p4, f_Lim_recall, fd_I, fd_V, fd_A, pt_V, pt_Z, ar_I, ar_Z, ar_R, as_I, as_Z, cp_I, ln_A, ck_T, tg_O, hp_2, List.contains_cons, List.contains_nil, List.getElem?_cons_zero, List.getElem?_cons_succ, List.set_cons_succ, List.set_cons_zero, List.length_cons, List.length_nil, Option.bind_some, Option.bind_none, Nat.reduceLT, Nat.reduceAdd, Nat.reduceBEq, BEq.rfl, beq_self_eq_true, Bool.or_false, Bool.or_true, Bool.true_or, Bool.false_or, decide_true, decide_false, Bool.not_false, Bool.not_true, Nat.zero_lt_succ, Nat.lt_add_left_iff_pos, Nat.succ_ne_self, ne_eq, not_false_eq_true, eq_self, if_true, if_false, ite_true, ite_false, bd_I, bd_V, bd_A, bd_L, re_I, re_V, Bool.true_and, Bool.and_true, reduceIte, reduceCtorEq, ↓reduceIte, Nat.reduceEqDiff]
      refine ⟨_, rfl, ⟨⟨hp_at _ _ _, hR.1.2⟩, p2.frame hk.2 fun q q1 q2 => hp_ne _ _ _ _ (by omega)⟩, p3, fun q hq => ?_⟩
      have : q ≠ e / 2 ∧ (q < b + 31 ∨ tp_N b as ≤ q) := by simp only [tp_N] at hq; omega
      rw [hp_ne _ _ _ _ this.1, p5 q this.2]
    | .inr (.inr (.inr (.inl (key, cd, cm)))), hv, hR, hc, pas =>
      have c0 : h.2 (e / 2) = some (ce_O 6 [.ref (hd_N2 b as), .int key, .int cd, .int cm]) := hR.1.1
      obtain ⟨h1, p1, p2, p3, p4, p5⟩ := pas hc _ c0 (by simp only [fd_A, fd_V, c0]; rfl)
      simp only [tg_O, c0, if_true, if_false, Nat.reduceEqDiff, p1, v_recall, p4, f_Cod_recall, fd_I, fd_V, fd_A, pt_V, pt_Z, ar_I, ar_Z, ar_R, as_I, as_Z, cp_I, ln_A, ck_T, tg_O, hp_2, List.contains_cons, List.contains_nil, List.getElem?_cons_zero, List.getElem?_cons_succ, List.set_cons_succ, List.set_cons_zero, List.length_cons, List.length_nil, Option.bind_some, Option.bind_none, Nat.reduceLT, Nat.reduceAdd, Nat.reduceBEq, BEq.rfl, beq_self_eq_true, Bool.or_false, Bool.or_true, Bool.true_or, Bool.false_or, decide_true, decide_false, Bool.not_false, Bool.not_true, Nat.zero_lt_succ, Nat.lt_add_left_iff_pos, Nat.succ_ne_self, ne_eq, not_false_eq_true, eq_self, if_true, if_false, ite_true, ite_false, bd_I, bd_V, bd_A, bd_L, re_I, re_V, Bool.true_and, Bool.and_true, reduceIte, reduceCtorEq, ↓reduceIte, Nat.reduceEqDiff]
      refine ⟨_, rfl, ⟨⟨hp_at _ _ _, hR.1.2⟩, p2.frame hk.2 fun q q1 q2 => hp_ne _ _ _ _ (by omega)⟩, p3, fun q hq => ?_⟩
      have : q ≠ e / 2 ∧ (q < b + 31 ∨ tp_N b as ≤ q) := by simp only [tp_N] at hq; omega
      rw [hp_ne _ _ _ _ this.1, p5 q this.2]
    | .inr (.inr (.inr (.inr (a, em, cr, crm)))), hv, hR, hc, pas =>
      have c0 : h.2 (e / 2) = some (ce_O 7 [.ref (hd_N2 b as), .int a, .int em, .int cr, .int crm]) := hR.1.1
      obtain ⟨h1, p1, p2, p3, p4, p5⟩ := pas hc _ c0 (by simp only [fd_A, fd_V, c0]; rfl)
      simp only [tg_O, c0, if_true, if_false, Nat.reduceEqDiff, p1, v_recall, p4, f_Lin_recall, fd_I, fd_V, fd_A, pt_V, pt_Z, ar_I, ar_Z, ar_R, as_I, as_Z, cp_I, ln_A, ck_T, tg_O, hp_2, List.contains_cons, List.contains_nil, List.getElem?_cons_zero, List.getElem?_cons_succ, List.set_cons_succ, List.set_cons_zero, List.length_cons, List.length_nil, Option.bind_some, Option.bind_none, Nat.reduceLT, Nat.reduceAdd, Nat.reduceBEq, BEq.rfl, beq_self_eq_true, Bool.or_false, Bool.or_true, Bool.true_or, Bool.false_or, decide_true, decide_false, Bool.not_false, Bool.not_true, Nat.zero_lt_succ, Nat.lt_add_left_iff_pos, Nat.succ_ne_self, ne_eq, not_false_eq_true, eq_self, if_true, if_false, ite_true, ite_false, bd_I, bd_V, bd_A, bd_L, re_I, re_V, Bool.true_and, Bool.and_true, reduceIte, reduceCtorEq, ↓reduceIte, Nat.reduceEqDiff, z_01 hv.1.2]
      refine ⟨_, rfl, ⟨⟨hp_at _ _ _, hR.1.2⟩, p2.frame hk.2 fun q q1 q2 => by rw [hp_ne _ _ _ _ (by omega), hp_ne _ _ _ _ (by omega)]⟩, p3, fun q hq => ?_⟩
      have : q ≠ e / 2 ∧ (q < b + 31 ∨ tp_N b as ≤ q) := by simp only [tp_N] at hq; omega
      rw [hp_ne _ _ _ _ this.1, hp_ne _ _ _ _ this.1, p5 q this.2]
  | [], _ :: _, _, _, _, _, hR, _, _, _ => hR.elim
  | _ :: _, [], _, _, _, _, hR, _, _, _ => hR.elim
