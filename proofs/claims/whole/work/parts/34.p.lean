theorem FR_9 {l : Nat} {g : Mg_t} {x : Int32} : FR l (l + 1) g (gA g 9 (upd (g.2 9) l x)) := by
  refine FR1 (fun _ _ _ => rfl) (fun k hk => ?_) (fun k hk i hi => ?_) (fun j hj => rfl)
  · simp only [List.mem_cons, List.not_mem_nil, or_false] at hk
    rcases hk with hk | hk | hk | hk | hk | hk | hk | hk | hk | hk <;> subst hk <;> rfl
  · simp only [List.mem_cons, List.not_mem_nil, or_false] at hk
    rcases hk with hk | hk | hk | hk | hk | hk <;> subst hk <;> simp only [gA_2, eq_self, if_true, if_false, ite_true, ite_false, bd_I, bd_V, bd_A, bd_L, re_I, re_V, Bool.true_and, Bool.and_true, reduceIte, reduceCtorEq, ↓reduceIte, Nat.reduceEqDiff, upd, if_neg hi]
theorem FR_11 {l : Nat} {g : Mg_t} {x : Int32} : FR l (l + 1) g (gA g 11 (upd (g.2 11) l x)) := by
  refine FR1 (fun _ _ _ => rfl) (fun k hk => ?_) (fun k hk i hi => ?_) (fun j hj => rfl)
  · simp only [List.mem_cons, List.not_mem_nil, or_false] at hk
    rcases hk with hk | hk | hk | hk | hk | hk | hk | hk | hk | hk <;> subst hk <;> rfl
  · simp only [List.mem_cons, List.not_mem_nil, or_false] at hk
    rcases hk with hk | hk | hk | hk | hk | hk <;> subst hk <;> simp only [gA_2, eq_self, if_true, if_false, ite_true, ite_false, bd_I, bd_V, bd_A, bd_L, re_I, re_V, Bool.true_and, Bool.and_true, reduceIte, reduceCtorEq, ↓reduceIte, Nat.reduceEqDiff, upd, if_neg hi]
theorem FR_14 {l : Nat} {g : Mg_t} {x : Int32} : FR l (l + 1) g (gA g 14 (upd (g.2 14) l x)) := by
  refine FR1 (fun _ _ _ => rfl) (fun k hk => ?_) (fun k hk i hi => ?_) (fun j hj => rfl)
  · simp only [List.mem_cons, List.not_mem_nil, or_false] at hk
    rcases hk with hk | hk | hk | hk | hk | hk | hk | hk | hk | hk <;> subst hk <;> rfl
  · simp only [List.mem_cons, List.not_mem_nil, or_false] at hk
    rcases hk with hk | hk | hk | hk | hk | hk <;> subst hk <;> simp only [gA_2, eq_self, if_true, if_false, ite_true, ite_false, bd_I, bd_V, bd_A, bd_L, re_I, re_V, Bool.true_and, Bool.and_true, reduceIte, reduceCtorEq, ↓reduceIte, Nat.reduceEqDiff, upd, if_neg hi]
theorem FR_18 {l : Nat} {g : Mg_t} {x : Int32} : FR l (l + 1) g (gA g 18 (upd (g.2 18) l x)) := by
  refine FR1 (fun _ _ _ => rfl) (fun k hk => ?_) (fun k hk i hi => ?_) (fun j hj => rfl)
  · simp only [List.mem_cons, List.not_mem_nil, or_false] at hk
    rcases hk with hk | hk | hk | hk | hk | hk | hk | hk | hk | hk <;> subst hk <;> rfl
  · simp only [List.mem_cons, List.not_mem_nil, or_false] at hk
    rcases hk with hk | hk | hk | hk | hk | hk <;> subst hk <;> simp only [gA_2, eq_self, if_true, if_false, ite_true, ite_false, bd_I, bd_V, bd_A, bd_L, re_I, re_V, Bool.true_and, Bool.and_true, reduceIte, reduceCtorEq, ↓reduceIte, Nat.reduceEqDiff, upd, if_neg hi]
theorem FR_19 {lo hi : Nat} {g : Mg_t} {f : Nat → Int32} : FR lo hi g (gA g 19 f) := by
  refine ⟨fun _ _ _ => rfl, fun k hk => ?_, fun k hk i hi => ?_, fun j hj => rfl⟩
  · simp only [List.mem_cons, List.not_mem_nil, or_false] at hk
    rcases hk with hk | hk | hk | hk | hk | hk | hk | hk | hk | hk <;> subst hk <;> rfl
  · simp only [List.mem_cons, List.not_mem_nil, or_false] at hk
    rcases hk with hk | hk | hk | hk | hk | hk <;> subst hk <;> rfl
theorem FR_S {lo hi : Nat} {g : Mg_t} {k : Nat} {x : Int32} (hk : k = 20 ∨ k = 5) : FR lo hi g (gS g k x) :=
  ⟨fun j h1 h2 => by simp only [gS_1]; rw [if_neg (by omega)], fun _ _ => rfl, fun _ _ _ _ => rfl, fun _ _ => rfl⟩
theorem M_pass (m : Nat) (h : Hs_t) (l n : Nat) (hl : l < 5) (hn : n ≤ 120) (g : Mg_t) (L : Ly_t) (hO : ly_O L) (hg : RLm g l L) (ha : g.2 18 l = ni n) (hN : an_L L n = none) (bs : List Int32) (hb : AN g bs) (hy : by_A bs) (hc : bs.length ≤ be_L L n) : ∃ g', f_M_pass m (ni l) (MH m g h) = re_V (MH m g' h) ∧ RLm g' l (ps_L L n bs).2 ∧ AN g' (ps_L L n bs).1 ∧ FR l (l + 1) g g' ∧ g'.1 5 = g.1 5 := by
  have h1 : in_R (ni l) 5 = true := ni_in_t (by omega) hl
  have h2 : (ni l).toNatClampNeg = l := ni_nat (by omega)
  have hbe := be_le hO hn
  have thr : ∀ (g1 : Mg_t) (L1 : Ly_t), ly_O L1 → RLm g1 l L1 → g1.2 18 l = ni n → tr_L L1 n = 1 → f_M_pass_b117 m (ni l) (MH m g1 h) = re_V (MH m g1 h) := by
    intro g1 L1 q1 q2 q3 q4
    rw [f_M_pass_b117, M_through m h l n hl hn g1 L1 q1 q2 q3, q4, re_Z1]
    simp only [mI_0, mP_0, mI_4, mP_4, mI_5, mP_5, mI_6, mP_6, mI_20, mP_20, mI_21, mP_21, mI_22, mP_22, mI_23, mP_23, mI_25, mP_25, mI_27, mP_27, mR_1, mG_1, mS_1, mR_2, mG_2, mS_2, mR_3, mG_3, mS_3, mR_7, mG_7, mS_7, mR_8, mG_8, mS_8, mR_9, mG_9, mS_9, mR_10, mG_10, mS_10, mR_11, mG_11, mS_11, mR_12, mG_12, mS_12, mR_13, mG_13, mS_13, mR_14, mG_14, mS_14, mR_15, mG_15, mS_15, mR_16, mG_16, mS_16, mR_17, mG_17, mS_17, mR_18, mG_18, mS_18, mR_19, mG_19, mS_19, mR_24, mG_24, mS_24, mR_26, mG_26, mS_26, mK_8, gS_1, gS_2, gA_1, gA_2, Option.bind_some, Option.bind_none, eq_self, if_true, if_false, ite_true, ite_false, bd_I, bd_V, bd_A, bd_L, re_I, re_V, Bool.true_and, Bool.and_true, reduceIte, reduceCtorEq, ↓reduceIte, Nat.reduceEqDiff, show ((1 : Int32) = 0) = False by decide, f_M_pass_b200]
  rw [f_M_pass]
  match L, hO, hg, hN, hc with
  | .inl (rm, kp, [], mq), hO, hg, hN, hc =>
    simp only [mI_0, mP_0, mI_4, mP_4, mI_5, mP_5, mI_6, mP_6, mI_20, mP_20, mI_21, mP_21, mI_22, mP_22, mI_23, mP_23, mI_25, mP_25, mI_27, mP_27, mR_1, mG_1, mS_1, mR_2, mG_2, mS_2, mR_3, mG_3, mS_3, mR_7, mG_7, mS_7, mR_8, mG_8, mS_8, mR_9, mG_9, mS_9, mR_10, mG_10, mS_10, mR_11, mG_11, mS_11, mR_12, mG_12, mS_12, mR_13, mG_13, mS_13, mR_14, mG_14, mS_14, mR_15, mG_15, mS_15, mR_16, mG_16, mS_16, mR_17, mG_17, mS_17, mR_18, mG_18, mS_18, mR_19, mG_19, mS_19, mR_24, mG_24, mS_24, mR_26, mG_26, mS_26, mK_8, gS_1, gS_2, gA_1, gA_2, Option.bind_some, Option.bind_none, h1, h2, eq_self, if_true, if_false, ite_true, ite_false, bd_I, bd_V, bd_A, bd_L, re_I, re_V, Bool.true_and, Bool.and_true, reduceIte, reduceCtorEq, ↓reduceIte, Nat.reduceEqDiff, hg.1, show ((1 : Int32) = 3) = False by decide, f_M_pass_b27, f_M_pass_b42, show ((1 : Int32) = 5) = False by decide, show ((1 : Int32) = 4) = False by decide]
    by_cases ht : tr_L (ly_B rm kp [] mq) n = 1
    · rw [thr g _ hO hg ha ht]
      simp only [ps_L, ht, if_true]
      exact ⟨g, rfl, hg, hb, FR.refl _ _ _, rfl⟩
    · have ht0 : tr_L (ly_B rm kp [] mq) n = 0 := by rcases tr_01 (ly_B rm kp [] mq) n with q | q; exact q; exact absurd q ht
      rw [f_M_pass_b117, M_through m h l n hl hn g _ hO hg ha, ht0, re_Z0]
      simp only [mI_0, mP_0, mI_4, mP_4, mI_5, mP_5, mI_6, mP_6, mI_20, mP_20, mI_21, mP_21, mI_22, mP_22, mI_23, mP_23, mI_25, mP_25, mI_27, mP_27, mR_1, mG_1, mS_1, mR_2, mG_2, mS_2, mR_3, mG_3, mS_3, mR_7, mG_7, mS_7, mR_8, mG_8, mS_8, mR_9, mG_9, mS_9, mR_10, mG_10, mS_10, mR_11, mG_11, mS_11, mR_12, mG_12, mS_12, mR_13, mG_13, mS_13, mR_14, mG_14, mS_14, mR_15, mG_15, mS_15, mR_16, mG_16, mS_16, mR_17, mG_17, mS_17, mR_18, mG_18, mS_18, mR_19, mG_19, mS_19, mR_24, mG_24, mS_24, mR_26, mG_26, mS_26, mK_8, gS_1, gS_2, gA_1, gA_2, Option.bind_some, Option.bind_none, eq_self, if_true, if_false, ite_true, ite_false, bd_I, bd_V, bd_A, bd_L, re_I, re_V, Bool.true_and, Bool.and_true, reduceIte, reduceCtorEq, ↓reduceIte, Nat.reduceEqDiff, hb.1, ps_L, ht]
      match bs, hb, hy, hc with
      | [], hb, hy, hc =>
        rw [if_pos (show ni ([] : List Int32).length ≤ 0 by decide)]
        exact ⟨g, rfl, hg, hb, FR.refl _ _ _, rfl⟩
      | b :: bs, hb, hy, hc =>
        rw [if_neg (show ¬ ni (b :: bs).length ≤ 0 from niNL (b := 0) (by omega) (by omega) (by simp))]
        simp only
        generalize hs : b :: bs = ss at *
        have hk : kp.length ≤ 32 := by
          have h5 := hO.2.2.2.2.2
          cases mq with
          | none => rw [h5]; simp
          | some l => have : l ≤ 32 ∧ kp.length ≤ l := h5; omega
        have hcr : ss.length ≤ rm := by
          cases mq with
          | none =>
            simp only [be_L] at hc
            simp only [tr_L] at ht
            by_cases hq : rm ≤ n
            · rw [if_pos hq] at ht; exact absurd rfl ht
            · rw [if_neg hq] at hc; exact hc
          | some l => exact hc
        have hr := hO.2.1
        obtain ⟨a1, a2, a3, a4, a5, a6, a7⟩ := hg
        have e1 := M_pass_b134 m h l kp.length ss.length hl (by omega) ss.length 0 (fu_N - ss.length - 1) g hb.1 (by rw [a3]; rfl) (by omega)
        rw [show fu_N - ss.length - 1 + ss.length + 1 = fu_N by simp only [fu_N]; omega] at e1
        rw [show (0 : Int32) = ni 0 from rfl, e1, f_M_pass_b134]
        simp only [mI_0, mP_0, mI_4, mP_4, mI_5, mP_5, mI_6, mP_6, mI_20, mP_20, mI_21, mP_21, mI_22, mP_22, mI_23, mP_23, mI_25, mP_25, mI_27, mP_27, mR_1, mG_1, mS_1, mR_2, mG_2, mS_2, mR_3, mG_3, mS_3, mR_7, mG_7, mS_7, mR_8, mG_8, mS_8, mR_9, mG_9, mS_9, mR_10, mG_10, mS_10, mR_11, mG_11, mS_11, mR_12, mG_12, mS_12, mR_13, mG_13, mS_13, mR_14, mG_14, mS_14, mR_15, mG_15, mS_15, mR_16, mG_16, mS_16, mR_17, mG_17, mS_17, mR_18, mG_18, mS_18, mR_19, mG_19, mS_19, mR_24, mG_24, mS_24, mR_26, mG_26, mS_26, mK_8, gS_1, gS_2, gA_1, gA_2, Option.bind_some, Option.bind_none, h1, h2, eq_self, if_true, if_false, ite_true, ite_false, bd_I, bd_V, bd_A, bd_L, re_I, re_V, Bool.true_and, Bool.and_true, reduceIte, reduceCtorEq, ↓reduceIte, Nat.reduceEqDiff, hb.1]
        rw [if_pos (niL (by omega) (by omega) (by omega))]
        have hO2 : ly_O (ly_B rm kp ss mq) := ⟨hO.1, hO.2.1, hO.2.2.1, hy, by omega, hO.2.2.2.2.2⟩
        have hcp : sl (va_cpy (g.2 19) (g.2 13) 0 (64 * l + kp.length + 0) ss.length) (64 * l + kp.length) ss.length = ss := by
          rw [Nat.add_zero, sl_cpy]; exact hb.2
        have hg2 : RLm (gA (gA g 13 (va_cpy (g.2 19) (g.2 13) 0 (64 * l + kp.length + 0) ss.length)) 14 (upd (g.2 14) l (g.2 14 l + ni ss.length))) l (ly_B rm kp ss mq) := by
          refine ⟨a1, a2, by simp only [gA_2, eq_self, if_true, if_false, ite_true, ite_false, bd_I, bd_V, bd_A, bd_L, re_I, re_V, Bool.true_and, Bool.and_true, reduceIte, reduceCtorEq, ↓reduceIte, Nat.reduceEqDiff, upd]; rw [a3, ni_add]; rfl, a4, ?_, hcp, a7⟩
          simp only [gA_2, eq_self, if_true, if_false, ite_true, ite_false, bd_I, bd_V, bd_A, bd_L, re_I, re_V, Bool.true_and, Bool.and_true, reduceIte, reduceCtorEq, ↓reduceIte, Nat.reduceEqDiff]
          rw [sl_cpy_out _ _ _ _ _ _ _ (by omega)]; exact a5
        obtain ⟨g', e2, e3, e4, e5, e6⟩ := M_give m h l n hl (by omega) _ rm kp ss mq hO2 hg2
        simp only [ha, e2, eq_self, if_true, if_false, ite_true, ite_false, bd_I, bd_V, bd_A, bd_L, re_I, re_V, Bool.true_and, Bool.and_true, reduceIte, reduceCtorEq, ↓reduceIte, Nat.reduceEqDiff, f_M_pass_b200]
        refine ⟨g', rfl, e3, e4, FR.trans (FR.trans ?_ FR_14) e5, e6⟩
        refine FR1 (fun _ _ _ => rfl) (fun k hk => ?_) (fun k hk i hi => ?_) (fun j hj => ?_)
        · simp only [List.mem_cons, List.not_mem_nil, or_false] at hk
          rcases hk with hk | hk | hk | hk | hk | hk | hk | hk | hk | hk <;> subst hk <;> rfl
        · simp only [List.mem_cons, List.not_mem_nil, or_false] at hk
          rcases hk with hk | hk | hk | hk | hk | hk <;> subst hk <;> rfl
        · simp only [gA_2, eq_self, if_true, if_false, ite_true, ite_false, bd_I, bd_V, bd_A, bd_L, re_I, re_V, Bool.true_and, Bool.and_true, reduceIte, reduceCtorEq, ↓reduceIte, Nat.reduceEqDiff]
          exact cpy_out _ _ _ _ _ _ (by omega)
  | .inl (rm, kp, t :: tg, mq), hO, hg, hN, hc => simp [an_L] at hN
  | .inr (.inl (rm, st)), hO, hg, hN, hc =>
    simp only [mI_0, mP_0, mI_4, mP_4, mI_5, mP_5, mI_6, mP_6, mI_20, mP_20, mI_21, mP_21, mI_22, mP_22, mI_23, mP_23, mI_25, mP_25, mI_27, mP_27, mR_1, mG_1, mS_1, mR_2, mG_2, mS_2, mR_3, mG_3, mS_3, mR_7, mG_7, mS_7, mR_8, mG_8, mS_8, mR_9, mG_9, mS_9, mR_10, mG_10, mS_10, mR_11, mG_11, mS_11, mR_12, mG_12, mS_12, mR_13, mG_13, mS_13, mR_14, mG_14, mS_14, mR_15, mG_15, mS_15, mR_16, mG_16, mS_16, mR_17, mG_17, mS_17, mR_18, mG_18, mS_18, mR_19, mG_19, mS_19, mR_24, mG_24, mS_24, mR_26, mG_26, mS_26, mK_8, gS_1, gS_2, gA_1, gA_2, Option.bind_some, Option.bind_none, h1, h2, eq_self, if_true, if_false, ite_true, ite_false, bd_I, bd_V, bd_A, bd_L, re_I, re_V, Bool.true_and, Bool.and_true, reduceIte, reduceCtorEq, ↓reduceIte, Nat.reduceEqDiff, hg.1, show ((2 : Int32) = 3) = False by decide, f_M_pass_b27, f_M_pass_b42, show ((2 : Int32) = 5) = False by decide, show ((2 : Int32) = 4) = False by decide]
    rw [thr g _ hO hg ha rfl]
    exact ⟨g, rfl, hg, hb, FR.refl _ _ _, rfl⟩
  | .inr (.inr (.inl (lf, lm))), hO, hg, hN, hc =>
    have hc2 : bs.length ≤ lf := by simp only [be_L] at hc; omega
    simp only [mI_0, mP_0, mI_4, mP_4, mI_5, mP_5, mI_6, mP_6, mI_20, mP_20, mI_21, mP_21, mI_22, mP_22, mI_23, mP_23, mI_25, mP_25, mI_27, mP_27, mR_1, mG_1, mS_1, mR_2, mG_2, mS_2, mR_3, mG_3, mS_3, mR_7, mG_7, mS_7, mR_8, mG_8, mS_8, mR_9, mG_9, mS_9, mR_10, mG_10, mS_10, mR_11, mG_11, mS_11, mR_12, mG_12, mS_12, mR_13, mG_13, mS_13, mR_14, mG_14, mS_14, mR_15, mG_15, mS_15, mR_16, mG_16, mS_16, mR_17, mG_17, mS_17, mR_18, mG_18, mS_18, mR_19, mG_19, mS_19, mR_24, mG_24, mS_24, mR_26, mG_26, mS_26, mK_8, gS_1, gS_2, gA_1, gA_2, Option.bind_some, Option.bind_none, h1, h2, eq_self, if_true, if_false, ite_true, ite_false, bd_I, bd_V, bd_A, bd_L, re_I, re_V, Bool.true_and, Bool.and_true, reduceIte, reduceCtorEq, ↓reduceIte, Nat.reduceEqDiff, hg.1, hg.2.1, hb.1, f_M_pass_b27, f_M_pass_b42, show ((3 : Int32) = 5) = False by decide, show ((3 : Int32) = 4) = False by decide, ni_sub hc2]
    have hr : RLm (gA g 9 (upd (g.2 9) l (ni (lf - bs.length)))) l (ly_M (lf - bs.length) lm) := ⟨hg.1, by simp only [gA_2, eq_self, if_true, if_false, ite_true, ite_false, bd_I, bd_V, bd_A, bd_L, re_I, re_V, Bool.true_and, Bool.and_true, reduceIte, reduceCtorEq, ↓reduceIte, Nat.reduceEqDiff, upd], hg.2.2⟩
    rw [thr _ (ly_M (lf - bs.length) lm) ⟨by have := hO.1; omega, hO.2⟩ hr ha rfl]
    exact ⟨_, rfl, hr, ⟨hb.1, hb.2⟩, FR_9, rfl⟩
  | .inr (.inr (.inr (.inl (key, cd, cm)))), hO, hg, hN, hc =>
    have hc2 : bs.length ≤ n := hc
    simp only [mI_0, mP_0, mI_4, mP_4, mI_5, mP_5, mI_6, mP_6, mI_20, mP_20, mI_21, mP_21, mI_22, mP_22, mI_23, mP_23, mI_25, mP_25, mI_27, mP_27, mR_1, mG_1, mS_1, mR_2, mG_2, mS_2, mR_3, mG_3, mS_3, mR_7, mG_7, mS_7, mR_8, mG_8, mS_8, mR_9, mG_9, mS_9, mR_10, mG_10, mS_10, mR_11, mG_11, mS_11, mR_12, mG_12, mS_12, mR_13, mG_13, mS_13, mR_14, mG_14, mS_14, mR_15, mG_15, mS_15, mR_16, mG_16, mS_16, mR_17, mG_17, mS_17, mR_18, mG_18, mS_18, mR_19, mG_19, mS_19, mR_24, mG_24, mS_24, mR_26, mG_26, mS_26, mK_8, gS_1, gS_2, gA_1, gA_2, Option.bind_some, Option.bind_none, h1, h2, eq_self, if_true, if_false, ite_true, ite_false, bd_I, bd_V, bd_A, bd_L, re_I, re_V, Bool.true_and, Bool.and_true, reduceIte, reduceCtorEq, ↓reduceIte, Nat.reduceEqDiff, hg.1, show ((4 : Int32) = 3) = False by decide, f_M_pass_b27, f_M_pass_b42, show ((4 : Int32) = 5) = False by decide]
    have e1 := M_pass_b54 m h l bs.length hl (by omega) bs.length 0 (fu_N - bs.length - 1) g hb.1 (by omega)
    rw [show fu_N - bs.length - 1 + bs.length + 1 = fu_N by simp only [fu_N]; omega] at e1
    rw [show (0 : Int32) = ni 0 from rfl, e1]
    have hr : RLm (gA (gA g 19 (cd_f (g.2 8 l) (g.2 9 l) (g.2 19) 0 bs.length)) 9 (upd (g.2 9) l (g.2 9 l + ni bs.length))) l (ly_C key (cd + ni bs.length) cm) := ⟨hg.1, hg.2.1, by simp only [gA_2, eq_self, if_true, if_false, ite_true, ite_false, bd_I, bd_V, bd_A, bd_L, re_I, re_V, Bool.true_and, Bool.and_true, reduceIte, reduceCtorEq, ↓reduceIte, Nat.reduceEqDiff, upd]; rw [hg.2.2.1], hg.2.2.2⟩
    rw [thr _ (ly_C key (cd + ni bs.length) cm) trivial hr ha rfl]
    refine ⟨_, rfl, hr, ⟨by simp only [ps_L, cd_len]; exact hb.1, ?_⟩, FR.trans FR_19 FR_9, rfl⟩
    simp only [ps_L, cd_len, gA_2, eq_self, if_true, if_false, ite_true, ite_false, bd_I, bd_V, bd_A, bd_L, re_I, re_V, Bool.true_and, Bool.and_true, reduceIte, reduceCtorEq, ↓reduceIte, Nat.reduceEqDiff]
    have hy2 := hy
    rw [← hb.2] at hy2
    have e2 := cd_sl key (g.2 19) bs.length 0 cd hy2
    rw [hb.2] at e2
    rw [← e2, hg.2.1, hg.2.2.1]
    refine sl_congr fun k hk => ?_
    simp only [cd_f]
    rw [if_pos (by omega), Nat.sub_zero]
  | .inr (.inr (.inr (.inr (e, em, cr, crm)))), hO, hg, hN, hc =>
    have hc2 : bs.length ≤ n := hc
    have e1 := M_countLines_b2 m h l bs.length hl (by omega) bs.length 0 (fu_N - bs.length - 1) g hb.1 (by omega)
    rw [show fu_N - bs.length - 1 + bs.length + 1 = fu_N by simp only [fu_N]; omega, hb.2, hg.2.1, hg.2.2.2.1] at e1
    have e2 : f_M_countLines m (ni l) (MH m g h) = re_V (MH m (ln_g g l (bs.foldl ln_1 (e, cr))) h) := by
      rw [f_M_countLines]; exact e1
    simp only [mI_0, mP_0, mI_4, mP_4, mI_5, mP_5, mI_6, mP_6, mI_20, mP_20, mI_21, mP_21, mI_22, mP_22, mI_23, mP_23, mI_25, mP_25, mI_27, mP_27, mR_1, mG_1, mS_1, mR_2, mG_2, mS_2, mR_3, mG_3, mS_3, mR_7, mG_7, mS_7, mR_8, mG_8, mS_8, mR_9, mG_9, mS_9, mR_10, mG_10, mS_10, mR_11, mG_11, mS_11, mR_12, mG_12, mS_12, mR_13, mG_13, mS_13, mR_14, mG_14, mS_14, mR_15, mG_15, mS_15, mR_16, mG_16, mS_16, mR_17, mG_17, mS_17, mR_18, mG_18, mS_18, mR_19, mG_19, mS_19, mR_24, mG_24, mS_24, mR_26, mG_26, mS_26, mK_8, gS_1, gS_2, gA_1, gA_2, Option.bind_some, Option.bind_none, h1, h2, eq_self, if_true, if_false, ite_true, ite_false, bd_I, bd_V, bd_A, bd_L, re_I, re_V, Bool.true_and, Bool.and_true, reduceIte, reduceCtorEq, ↓reduceIte, Nat.reduceEqDiff, hg.1, show ((5 : Int32) = 3) = False by decide, f_M_pass_b27, e2, f_M_pass_b42]
    have hr : RLm (ln_g g l (bs.foldl ln_1 (e, cr))) l (ly_N (bs.foldl ln_1 (e, cr)).1 em (bs.foldl ln_1 (e, cr)).2 crm) := ⟨hg.1, by simp only [ln_g, gA_2, eq_self, if_true, if_false, ite_true, ite_false, bd_I, bd_V, bd_A, bd_L, re_I, re_V, Bool.true_and, Bool.and_true, reduceIte, reduceCtorEq, ↓reduceIte, Nat.reduceEqDiff, upd], hg.2.2.1, by simp only [ln_g, gA_2, eq_self, if_true, if_false, ite_true, ite_false, bd_I, bd_V, bd_A, bd_L, re_I, re_V, Bool.true_and, Bool.and_true, reduceIte, reduceCtorEq, ↓reduceIte, Nat.reduceEqDiff, upd], hg.2.2.2.2⟩
    have e7 : (ln_g g l (bs.foldl ln_1 (e, cr))).2 7 l = 5 := hg.1
    simp only [e7, show ((5 : Int32) = 4) = False by decide, if_false]
    rw [thr _ (ly_N (bs.foldl ln_1 (e, cr)).1 em (bs.foldl ln_1 (e, cr)).2 crm) ⟨ln_01 bs _ hO.1, hO.2⟩ hr ha rfl]
    exact ⟨_, rfl, hr, ⟨hb.1, hb.2⟩, FR.trans FR_9 FR_11, rfl⟩
