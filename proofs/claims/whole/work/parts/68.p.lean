theorem M_hm {g : Mg_t} : ∀ {ls : List Ly_t}, cmk ls = true → RMl g ls → g.2 16 (bbi ls) = bI (hmk ls)
  | [], hc, _ => by cases hc
  | .inl (rm, kp, tg, none) :: ls, hc, hR => hR.1.2.2.2.2.2.2
  | .inl (rm, kp, tg, some l) :: ls, hc, hR => hR.1.2.2.2.2.2.2.1
  | .inr (.inl _) :: ls, hc, _ => by cases hc
  | .inr (.inr (.inl _)) :: ls, hc, hR => M_hm (ls := ls) hc hR.2
  | .inr (.inr (.inr (.inl _))) :: ls, hc, hR => M_hm (ls := ls) hc hR.2
  | .inr (.inr (.inr (.inr _))) :: ls, hc, hR => M_hm (ls := ls) hc hR.2
theorem M_rs (m : Nat) (h : Hs_t) (s : Sr_t) (q : Nat) (hq : q ≤ 5) : ∀ (ls : List Ly_t) (g : Mg_t), g.1 6 = ni q → cmk ls = true → RMl g ls → iv_O ls s → ls.length ≤ q → ∃ g' k, f_M_reset_b61 fu_N m (ni (bbi ls + 1)) (MH m (gA g 15 (upd (g.2 15) (bbi ls) 0)) h) = f_M_reset_b61 k m (ni ls.length) (MH m g' h) ∧ fu_N ≤ k + ls.length ∧ RMl g' (gbk ls) ∧ FM ls.length g g'
  | [], g, _, hc, _, _, _ => by cases hc
  | L :: ls, g, h6, hc, hR, hv, hL => by
    have hl : ls.length + 1 ≤ q := hL
    have h1 : in_R (ni ls.length) 5 = true := ni_in_t (by omega) (by omega)
    have h2 : (ni ls.length).toNatClampNeg = ls.length := ni_nat (by omega)
    have pas : cmk ls = true → (g.2 12 ls.length = 0 ∨ g.2 12 ls.length = 1) → ∃ g' k, f_M_reset_b61 fu_N m (ni (bbi ls + 1)) (MH m (gA g 15 (upd (g.2 15) (bbi ls) 0)) h) = f_M_reset_b61 k m (ni (ls.length + 1)) (MH m g' h) ∧ fu_N ≤ k + (ls.length + 1) ∧ RMl g' (gbk ls) ∧ FM (ls.length + 1) g g' ∧ g'.2 9 ls.length = g.2 10 ls.length ∧ g'.2 11 ls.length = g.2 12 ls.length ∧ (∀ k, 7 ≤ k → k ≤ 17 → k ≠ 13 → k ≠ 9 → k ≠ 11 → g'.2 k ls.length = g.2 k ls.length) := by
      intro hc2 hz
      obtain ⟨g', k, p2, p3, p4, p5⟩ := M_rs m h s q hq ls g h6 hc2 hR.2 hv.2.2 (by omega)
      have e10 := p5.2.2.1 10 (by omega) (by omega) (by omega) ls.length (Nat.le_refl _)
      have e12 := p5.2.2.1 12 (by omega) (by omega) (by omega) ls.length (Nat.le_refl _)
      have e6 : g'.1 6 = ni q := by rw [p5.1]; exact h6
      obtain ⟨k, rfl⟩ : ∃ k0, k = k0 + 1 := ⟨k - 1, by simp only [fu_N] at p3; omega⟩
      refine ⟨gA (gA g' 9 (upd (g'.2 9) ls.length (g.2 10 ls.length))) 11 (upd (g'.2 11) ls.length (g.2 12 ls.length)), k, ?_, ?_, ?_, ⟨p5.1, fun k hk => ?_, fun k k1 k2 k3 i hi => ?_, fun j hj => ?_⟩, ?_, ?_, fun k k1 k2 k3 k4 k5 => ?_⟩
      · rw [p2, f_M_reset_b61]
        simp only [mI_0, mP_0, mI_4, mP_4, mI_5, mP_5, mI_6, mP_6, mI_20, mP_20, mI_21, mP_21, mI_22, mP_22, mI_23, mP_23, mI_25, mP_25, mI_27, mP_27, mR_1, mG_1, mS_1, mR_2, mG_2, mS_2, mR_3, mG_3, mS_3, mR_7, mG_7, mS_7, mR_8, mG_8, mS_8, mR_9, mG_9, mS_9, mR_10, mG_10, mS_10, mR_11, mG_11, mS_11, mR_12, mG_12, mS_12, mR_13, mG_13, mS_13, mR_14, mG_14, mS_14, mR_15, mG_15, mS_15, mR_16, mG_16, mS_16, mR_17, mG_17, mS_17, mR_18, mG_18, mS_18, mR_19, mG_19, mS_19, mR_24, mG_24, mS_24, mR_26, mG_26, mS_26, mK_8, gS_1, gS_2, gA_1, gA_2, Option.bind_some, Option.bind_none, e6]
        rw [if_neg (niNL (by omega) (by omega) (by omega))]
        simp only [mI_0, mP_0, mI_4, mP_4, mI_5, mP_5, mI_6, mP_6, mI_20, mP_20, mI_21, mP_21, mI_22, mP_22, mI_23, mP_23, mI_25, mP_25, mI_27, mP_27, mR_1, mG_1, mS_1, mR_2, mG_2, mS_2, mR_3, mG_3, mS_3, mR_7, mG_7, mS_7, mR_8, mG_8, mS_8, mR_9, mG_9, mS_9, mR_10, mG_10, mS_10, mR_11, mG_11, mS_11, mR_12, mG_12, mS_12, mR_13, mG_13, mS_13, mR_14, mG_14, mS_14, mR_15, mG_15, mS_15, mR_16, mG_16, mS_16, mR_17, mG_17, mS_17, mR_18, mG_18, mS_18, mR_19, mG_19, mS_19, mR_24, mG_24, mS_24, mR_26, mG_26, mS_26, mK_8, gS_1, gS_2, gA_1, gA_2, Option.bind_some, Option.bind_none, h1, h2, if_true, Option.bind_some, e10, e12, z_01 hz, Bool.and_self, ni_p1, Nat.reduceEqDiff, if_false]
      · simp only [fu_N] at *; omega
      · refine RMl.idx (g := g') (s := s) (n := ls.length) (fun k k1 k2 k3 i hi => ?_) (fun j hj => by simp only [gA_2, eq_self, if_true, if_false, ite_true, ite_false, bd_I, bd_V, bd_A, bd_L, re_I, re_V, Bool.true_and, Bool.and_true, reduceIte, reduceCtorEq, ↓reduceIte, Nat.reduceEqDiff]) ?_ (Nat.le_of_eq (gbk_len ls)) p4
        · simp only [gA_2]
          by_cases k12 : k = 11
          · subst k12; simp only [if_true, upd]; rw [if_neg (by omega)]
          · rw [if_neg k12]
            by_cases k10 : k = 9
            · subst k10; simp only [if_true, upd]; rw [if_neg (by omega)]
            · rw [if_neg k10]
        · exact (gbk_iv s ls hv.2.2).1
      · simp only [gA_2]; rw [if_neg (by omega), if_neg (by omega)]; exact p5.2.1 k hk
      · simp only [gA_2]
        have := p5.2.2.1 k k1 k2 k3 i (by omega)
        by_cases k12 : k = 11
        · subst k12; simp only [if_true, upd]; rw [if_neg (by omega)]; exact this
        · rw [if_neg k12]
          by_cases k10 : k = 9
          · subst k10; simp only [if_true, upd]; rw [if_neg (by omega)]; exact this
          · rw [if_neg k10]; exact this
      · exact p5.2.2.2 j (by omega)
      · simp only [gA_2, upd, eq_self, if_true, if_false, ite_true, ite_false, bd_I, bd_V, bd_A, bd_L, re_I, re_V, Bool.true_and, Bool.and_true, reduceIte, reduceCtorEq, ↓reduceIte, Nat.reduceEqDiff]
      · simp only [gA_2, upd, eq_self, if_true, if_false, ite_true, ite_false, bd_I, bd_V, bd_A, bd_L, re_I, re_V, Bool.true_and, Bool.and_true, reduceIte, reduceCtorEq, ↓reduceIte, Nat.reduceEqDiff]
      · simp only [gA_2]; rw [if_neg k5, if_neg k4]; exact p5.2.2.1 k k1 k2 k3 _ (Nat.le_refl _)
    match L, hc, hR, hv, pas with
    | .inl (rm, kp, tg, mq), hc, hR, hv, pas =>
      obtain ⟨a1, a2, a3, a4, a5, a6, a7⟩ := hR.1
      refine ⟨gA g 15 (upd (g.2 15) ls.length 0), fu_N, rfl, Nat.le_add_right _ _, ⟨?_, ?_⟩, rfl, fun k hk => ?_, fun k k1 k2 k3 i hi => ?_, fun j hj => rfl⟩
      · refine ⟨a1, a2, ?_, by simp only [gA_2, upd, eq_self, if_true, if_false, ite_true, ite_false, bd_I, bd_V, bd_A, bd_L, re_I, re_V, Bool.true_and, Bool.and_true, reduceIte, reduceCtorEq, ↓reduceIte, Nat.reduceEqDiff]; rfl, rfl, ?_, a7⟩
        · show g.2 14 ls.length = _
          rw [a3]; simp only [List.length_nil, Nat.zero_add, List.length_append]
        · show sl (g.2 13) (64 * ls.length + 0) (kp ++ tg).length = kp ++ tg
          rw [Nat.add_zero, List.length_append, sl_app, a5, a6]
      · refine RMl.idx (g := g) (s := s) (n := ls.length) (fun k k1 k2 k3 i hi => ?_) (fun j hj => by simp only [gA_2, eq_self, if_true, if_false, ite_true, ite_false, bd_I, bd_V, bd_A, bd_L, re_I, re_V, Bool.true_and, Bool.and_true, reduceIte, reduceCtorEq, ↓reduceIte, Nat.reduceEqDiff]) hv.2.2 (Nat.le_refl _) hR.2
        have hne : ¬ i = ls.length := by omega
        simp only [gA_2]
        split
        · rename_i hk; subst hk; simp only [upd, hne, if_false]
        · rfl
      · simp only [gA_2]; rw [if_neg (by omega)]
      · have hne : ¬ i = ls.length := by simp only [List.length_cons] at hi; omega
        simp only [gA_2]
        split
        · rename_i hk; subst hk; simp only [upd, hne, if_false]
        · rfl
    | .inr (.inl (rm, st)), hc, hR, hv, pas => cases hc
    | .inr (.inr (.inl (lf, lm))), hc, hR, hv, pas =>
      have r := hR.1
      obtain ⟨g', k, p2, p3, p4, p5, p6, p7, p8⟩ := pas hc r.2.2.2.2
      refine ⟨g', k, p2, p3, ⟨?_, p4⟩, p5⟩
      rw [gbk_len]
      exact ⟨by rw [p8 7 (by omega) (by omega) (by omega) (by omega) (by omega)]; exact r.1, by rw [p6]; exact r.2.2.1, by rw [p8 10 (by omega) (by omega) (by omega) (by omega) (by omega)]; exact r.2.2.1, by rw [p7]; exact r.2.2.2.2, by rw [p8 12 (by omega) (by omega) (by omega) (by omega) (by omega)]; exact r.2.2.2.2⟩
    | .inr (.inr (.inr (.inl (key, cd, cm)))), hc, hR, hv, pas =>
      have r := hR.1
      obtain ⟨g', k, p2, p3, p4, p5, p6, p7, p8⟩ := pas hc r.2.2.2.2.2
      refine ⟨g', k, p2, p3, ⟨?_, p4⟩, p5⟩
      rw [gbk_len]
      exact ⟨by rw [p8 7 (by omega) (by omega) (by omega) (by omega) (by omega)]; exact r.1, by rw [p8 8 (by omega) (by omega) (by omega) (by omega) (by omega)]; exact r.2.1, by rw [p6]; exact r.2.2.2.1, by rw [p8 10 (by omega) (by omega) (by omega) (by omega) (by omega)]; exact r.2.2.2.1, by rw [p7]; exact r.2.2.2.2.2, by rw [p8 12 (by omega) (by omega) (by omega) (by omega) (by omega)]; exact r.2.2.2.2.2⟩
    | .inr (.inr (.inr (.inr (e, em, cr, crm)))), hc, hR, hv, pas =>
      have r := hR.1
      obtain ⟨g', k, p2, p3, p4, p5, p6, p7, p8⟩ := pas hc (by rw [r.2.2.2.2]; exact hv.1.2)
      refine ⟨g', k, p2, p3, ⟨?_, p4⟩, p5⟩
      rw [gbk_len]
      exact ⟨by rw [p8 7 (by omega) (by omega) (by omega) (by omega) (by omega)]; exact r.1, by rw [p6]; exact r.2.2.1, by rw [p8 10 (by omega) (by omega) (by omega) (by omega) (by omega)]; exact r.2.2.1, by rw [p7]; exact r.2.2.2.2, by rw [p8 12 (by omega) (by omega) (by omega) (by omega) (by omega)]; exact r.2.2.2.2⟩
theorem M_reset {m : Nat} {h : Hs_t} {g : Mg_t} {w : Wd_t} (hR : RWw g w) (hv : wv_O w) : MO m h (f_M_reset m (MH m g h)) (op_reset w).1 (fun t => if t = 10 then 1 else 2) none (op_reset w).2 := by
  obtain ⟨ls, s, lv, lvm, cl, bag, lt⟩ := w
  have hR : RW g ls s lv lvm cl bag lt := hR
  obtain ⟨v1, v2, v3, v4, v5, v6, v7, v8⟩ := hv
  have v2 : ls.length ≤ 5 := v2
  have e21 : g.1 21 = cl := hR.2.2.2.1
  have e6 := hR.2.2.1
  have hbb := M_bb m h g ls (fu_N - ls.length - 1) hR.1 v2
  rw [show fu_N - ls.length - 1 + ls.length + 1 = fu_N by simp only [fu_N]; omega] at hbb
  have hb2 : f_M_bufferBelow m (MH m g h) = re_I (if cmk ls then ni (bbi ls) else -1) (MH m g h) := by
    rw [f_M_bufferBelow]; simp only [mI_0, mP_0, mI_4, mP_4, mI_5, mP_5, mI_6, mP_6, mI_20, mP_20, mI_21, mP_21, mI_22, mP_22, mI_23, mP_23, mI_25, mP_25, mI_27, mP_27, mR_1, mG_1, mS_1, mR_2, mG_2, mS_2, mR_3, mG_3, mS_3, mR_7, mG_7, mS_7, mR_8, mG_8, mS_8, mR_9, mG_9, mS_9, mR_10, mG_10, mS_10, mR_11, mG_11, mS_11, mR_12, mG_12, mS_12, mR_13, mG_13, mS_13, mR_14, mG_14, mS_14, mR_15, mG_15, mS_15, mR_16, mG_16, mS_16, mR_17, mG_17, mS_17, mR_18, mG_18, mS_18, mR_19, mG_19, mS_19, mR_24, mG_24, mS_24, mR_26, mG_26, mS_26, mK_8, gS_1, gS_2, gA_1, gA_2, Option.bind_some, Option.bind_none, e6]; exact hbb
  rw [f_M_reset, hb2]
  simp only [mI_0, mP_0, mI_4, mP_4, mI_5, mP_5, mI_6, mP_6, mI_20, mP_20, mI_21, mP_21, mI_22, mP_22, mI_23, mP_23, mI_25, mP_25, mI_27, mP_27, mR_1, mG_1, mS_1, mR_2, mG_2, mS_2, mR_3, mG_3, mS_3, mR_7, mG_7, mS_7, mR_8, mG_8, mS_8, mR_9, mG_9, mS_9, mR_10, mG_10, mS_10, mR_11, mG_11, mS_11, mR_12, mG_12, mS_12, mR_13, mG_13, mS_13, mR_14, mG_14, mS_14, mR_15, mG_15, mS_15, mR_16, mG_16, mS_16, mR_17, mG_17, mS_17, mR_18, mG_18, mS_18, mR_19, mG_19, mS_19, mR_24, mG_24, mS_24, mR_26, mG_26, mS_26, mK_8, gS_1, gS_2, gA_1, gA_2, Option.bind_some, Option.bind_none, eq_self, if_true, if_false, ite_true, ite_false, bd_I, bd_V, bd_A, bd_L, re_I, re_V, Bool.true_and, Bool.and_true, reduceIte, reduceCtorEq, ↓reduceIte, Nat.reduceEqDiff, e21, op_reset]
  by_cases hc : cl = 0
  · simp only [hc, if_true]
    subst hc
    cases hcc : cmk ls with
    | false =>
      simp only [Bool.false_eq_true, if_false, show ¬ ((0 : Int32) ≤ -1) by decide, f_M_reset_b39, mI_0, mP_0, mI_4, mP_4, mI_5, mP_5, mI_6, mP_6, mI_20, mP_20, mI_21, mP_21, mI_22, mP_22, mI_23, mP_23, mI_25, mP_25, mI_27, mP_27, mR_1, mG_1, mS_1, mR_2, mG_2, mS_2, mR_3, mG_3, mS_3, mR_7, mG_7, mS_7, mR_8, mG_8, mS_8, mR_9, mG_9, mS_9, mR_10, mG_10, mS_10, mR_11, mG_11, mS_11, mR_12, mG_12, mS_12, mR_13, mG_13, mS_13, mR_14, mG_14, mS_14, mR_15, mG_15, mS_15, mR_16, mG_16, mS_16, mR_17, mG_17, mS_17, mR_18, mG_18, mS_18, mR_19, mG_19, mS_19, mR_24, mG_24, mS_24, mR_26, mG_26, mS_26, mK_8, gS_1, gS_2, gA_1, gA_2, Option.bind_some, Option.bind_none, eq_self, if_true, if_false, ite_true, ite_false, bd_I, bd_V, bd_A, bd_L, re_I, re_V, Bool.true_and, Bool.and_true, reduceIte, reduceCtorEq, ↓reduceIte, Nat.reduceEqDiff, show ¬ ((2 : Int32) ≤ 0) by decide]
      exact ⟨_, rfl, hR.cd 2, rfl⟩
    | true =>
      have hbl := bb_lt hcc
      have h1 : in_R (ni (bbi ls)) 5 = true := ni_in_t (by omega) (by omega)
      have h2 : (ni (bbi ls)).toNatClampNeg = bbi ls := ni_nat (by omega)
      have hR0 := hR.cd 0
      simp only [if_true]
      rw [if_pos (show (0 : Int32) ≤ ni (bbi ls) from niL (a := 0) (by omega) (by omega) (by omega))]
      simp only [h1, h2, if_true, Option.bind_some, M_hm hcc hR.1]
      cases hhm : hmk ls with
      | false =>
        simp only [bI, if_true, Bool.false_eq_true, if_false, f_M_reset_b39, mI_0, mP_0, mI_4, mP_4, mI_5, mP_5, mI_6, mP_6, mI_20, mP_20, mI_21, mP_21, mI_22, mP_22, mI_23, mP_23, mI_25, mP_25, mI_27, mP_27, mR_1, mG_1, mS_1, mR_2, mG_2, mS_2, mR_3, mG_3, mS_3, mR_7, mG_7, mS_7, mR_8, mG_8, mS_8, mR_9, mG_9, mS_9, mR_10, mG_10, mS_10, mR_11, mG_11, mS_11, mR_12, mG_12, mS_12, mR_13, mG_13, mS_13, mR_14, mG_14, mS_14, mR_15, mG_15, mS_15, mR_16, mG_16, mS_16, mR_17, mG_17, mS_17, mR_18, mG_18, mS_18, mR_19, mG_19, mS_19, mR_24, mG_24, mS_24, mR_26, mG_26, mS_26, mK_8, gS_1, gS_2, gA_1, gA_2, Option.bind_some, Option.bind_none, eq_self, if_true, if_false, ite_true, ite_false, bd_I, bd_V, bd_A, bd_L, re_I, re_V, Bool.true_and, Bool.and_true, reduceIte, reduceCtorEq, ↓reduceIte, Nat.reduceEqDiff, show ¬ ((1 : Int32) ≤ 0) by decide]
        exact ⟨_, rfl, hR.cd 1, rfl⟩
      | true =>
        obtain ⟨g', k, p2, p3, p4, p5⟩ := M_rs m h s ls.length v2 ls (gS g 0 0) e6 hcc hR0.1 v1 (Nat.le_refl _)
        simp only [bI, show ((1 : Int32) = 0) = False by decide, if_false, if_true, f_M_reset_b39, mI_0, mP_0, mI_4, mP_4, mI_5, mP_5, mI_6, mP_6, mI_20, mP_20, mI_21, mP_21, mI_22, mP_22, mI_23, mP_23, mI_25, mP_25, mI_27, mP_27, mR_1, mG_1, mS_1, mR_2, mG_2, mS_2, mR_3, mG_3, mS_3, mR_7, mG_7, mS_7, mR_8, mG_8, mS_8, mR_9, mG_9, mS_9, mR_10, mG_10, mS_10, mR_11, mG_11, mS_11, mR_12, mG_12, mS_12, mR_13, mG_13, mS_13, mR_14, mG_14, mS_14, mR_15, mG_15, mS_15, mR_16, mG_16, mS_16, mR_17, mG_17, mS_17, mR_18, mG_18, mS_18, mR_19, mG_19, mS_19, mR_24, mG_24, mS_24, mR_26, mG_26, mS_26, mK_8, gS_1, gS_2, gA_1, gA_2, Option.bind_some, Option.bind_none, eq_self, if_true, if_false, ite_true, ite_false, bd_I, bd_V, bd_A, bd_L, re_I, re_V, Bool.true_and, Bool.and_true, reduceIte, reduceCtorEq, ↓reduceIte, Nat.reduceEqDiff, show ((0 : Int32) ≤ 0) = True by decide, h1, h2]
        simp only [gS_2] at p2
        rw [ni_p1, p2, show k = (k - 1) + 1 by simp only [fu_N] at p3; omega, f_M_reset_b61]
        have e6' : g'.1 6 = ni ls.length := by rw [p5.1]; exact e6
        have e23 : g'.1 23 = lvm := by rw [p5.1]; exact hR.2.2.2.2.2.1
        simp only [mI_0, mP_0, mI_4, mP_4, mI_5, mP_5, mI_6, mP_6, mI_20, mP_20, mI_21, mP_21, mI_22, mP_22, mI_23, mP_23, mI_25, mP_25, mI_27, mP_27, mR_1, mG_1, mS_1, mR_2, mG_2, mS_2, mR_3, mG_3, mS_3, mR_7, mG_7, mS_7, mR_8, mG_8, mS_8, mR_9, mG_9, mS_9, mR_10, mG_10, mS_10, mR_11, mG_11, mS_11, mR_12, mG_12, mS_12, mR_13, mG_13, mS_13, mR_14, mG_14, mS_14, mR_15, mG_15, mS_15, mR_16, mG_16, mS_16, mR_17, mG_17, mS_17, mR_18, mG_18, mS_18, mR_19, mG_19, mS_19, mR_24, mG_24, mS_24, mR_26, mG_26, mS_26, mK_8, gS_1, gS_2, gA_1, gA_2, Option.bind_some, Option.bind_none, e6', e23, z_01 v4, eq_self, if_true, if_false, ite_true, ite_false, bd_I, bd_V, bd_A, bd_L, re_I, re_V, Bool.true_and, Bool.and_true, reduceIte, reduceCtorEq, ↓reduceIte, Nat.reduceEqDiff]
        rw [if_pos (niL (by omega) (by omega) (Nat.le_refl _))]
        obtain ⟨b1, b2, b3, b4, b5, b6, b7, b8, b9, b10⟩ := hR0
        refine ⟨_, rfl, ⟨RMl.congr (g := g') (g' := gS g' 22 lvm) (fun k _ _ => rfl) p4, ?_, by show g'.1 6 = _; rw [e6', gbk_len], by show g'.1 21 = _; rw [p5.1]; exact b4, rfl, e23, by show g'.1 25 = _; rw [p5.1]; exact b7, by show sl (g'.2 24) 0 bag.length = bag; rw [p5.2.1 24 (by omega)]; exact b8, by show g'.1 27 = _; rw [p5.1]; exact b9, by show sl (g'.2 26) 0 lt.length = lt; rw [p5.2.1 26 (by omega)]; exact b10⟩, by show g'.1 0 = 0; rw [p5.1]; rfl⟩
        refine ⟨by show g'.2 1 = _; rw [p5.2.1 1 (by omega)]; exact b2.1, fun j hj => by show g'.2 2 j = _; rw [p5.2.1 2 (by omega)]; exact b2.2.1 j hj, by show g'.2 3 = _; rw [p5.2.1 3 (by omega)]; exact b2.2.2.1, by show g'.1 4 = _; rw [p5.1]; exact b2.2.2.2.1, by show g'.1 5 = _; rw [p5.1]; exact b2.2.2.2.2⟩
  · simp only [hc, if_false, f_M_reset_b39, mI_0, mP_0, mI_4, mP_4, mI_5, mP_5, mI_6, mP_6, mI_20, mP_20, mI_21, mP_21, mI_22, mP_22, mI_23, mP_23, mI_25, mP_25, mI_27, mP_27, mR_1, mG_1, mS_1, mR_2, mG_2, mS_2, mR_3, mG_3, mS_3, mR_7, mG_7, mS_7, mR_8, mG_8, mS_8, mR_9, mG_9, mS_9, mR_10, mG_10, mS_10, mR_11, mG_11, mS_11, mR_12, mG_12, mS_12, mR_13, mG_13, mS_13, mR_14, mG_14, mS_14, mR_15, mG_15, mS_15, mR_16, mG_16, mS_16, mR_17, mG_17, mS_17, mR_18, mG_18, mS_18, mR_19, mG_19, mS_19, mR_24, mG_24, mS_24, mR_26, mG_26, mS_26, mK_8, gS_1, gS_2, gA_1, gA_2, Option.bind_some, Option.bind_none, eq_self, if_true, if_false, ite_true, ite_false, bd_I, bd_V, bd_A, bd_L, re_I, re_V, Bool.true_and, Bool.and_true, reduceIte, reduceCtorEq, ↓reduceIte, Nat.reduceEqDiff, show ¬ ((1 : Int32) ≤ 0) by decide]
    exact ⟨_, rfl, hR.cd 1, rfl⟩
