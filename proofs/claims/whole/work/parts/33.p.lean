/-! The reference's way up and its requests. -/
/-- lines: the rows after the bytes i .. -/
def ln_g (g : Mg_t) (l : Nat) (z : Int32 × Int32) : Mg_t := gA (gA g 9 (upd (g.2 9) l z.1)) 11 (upd (g.2 11) l z.2)
theorem upd_self (f : Nat → Int32) (k : Nat) : upd f k (f k) = f := by
  funext j; simp only [upd]; split
  · rename_i h; rw [h]
  · rfl
theorem upd_upd (f : Nat → Int32) (k : Nat) (x y : Int32) : upd (upd f k x) k y = upd f k y := by
  funext j; simp only [upd]; split <;> rfl
theorem gA_com (g : Mg_t) (k1 k2 : Nat) (f1 f2 : Nat → Int32) (h : k1 ≠ k2) : gA (gA g k1 f1) k2 f2 = gA (gA g k2 f2) k1 f1 := by
  simp only [gA, Prod.mk.injEq, true_and]
  funext j; simp only [va_up]
  by_cases h1 : j = k2
  · rw [if_pos h1, if_neg (by omega), if_pos h1]
  · rw [if_neg h1]
    by_cases h2 : j = k1
    · rw [if_pos h2, if_pos h2]
    · rw [if_neg h2, if_neg h2, if_neg h1]
theorem M_countLines_b2 (m : Nat) (h : Hs_t) (l c : Nat) (hl : l < 5) (hc : c ≤ 120) (d : Nat) : ∀ (i k : Nat) (g : Mg_t), g.1 20 = ni c → i + d = c → f_M_countLines_b2 (k + d + 1) m (ni l) (ni i) (MH m g h) = re_V (MH m (ln_g g l ((sl (g.2 19) i d).foldl ln_1 (g.2 9 l, g.2 11 l))) h) := by
  have h1 : in_R (ni l) 5 = true := ni_in_t (by omega) hl
  have h2 : (ni l).toNatClampNeg = l := ni_nat (by omega)
  induction d with
  | zero =>
    intro i k g hg hi
    rw [f_M_countLines_b2]
    simp only [mI_0, mP_0, mI_4, mP_4, mI_5, mP_5, mI_6, mP_6, mI_20, mP_20, mI_21, mP_21, mI_22, mP_22, mI_23, mP_23, mI_25, mP_25, mI_27, mP_27, mR_1, mG_1, mS_1, mR_2, mG_2, mS_2, mR_3, mG_3, mS_3, mR_7, mG_7, mS_7, mR_8, mG_8, mS_8, mR_9, mG_9, mS_9, mR_10, mG_10, mS_10, mR_11, mG_11, mS_11, mR_12, mG_12, mS_12, mR_13, mG_13, mS_13, mR_14, mG_14, mS_14, mR_15, mG_15, mS_15, mR_16, mG_16, mS_16, mR_17, mG_17, mS_17, mR_18, mG_18, mS_18, mR_19, mG_19, mS_19, mR_24, mG_24, mS_24, mR_26, mG_26, mS_26, mK_8, gS_1, gS_2, gA_1, gA_2, Option.bind_some, Option.bind_none, eq_self, if_true, if_false, ite_true, ite_false, bd_I, bd_V, bd_A, bd_L, re_I, re_V, Bool.true_and, Bool.and_true, reduceIte, reduceCtorEq, ↓reduceIte, Nat.reduceEqDiff, hg, sl, List.foldl_nil, ln_g, upd_self, gA_self]
    rw [if_pos (niL (by omega) (by omega) (by omega))]
  | succ d ih =>
    intro i k g hg hi
    have h4 : in_R (ni i) 120 = true := ni_in_t (by omega) (by omega)
    have h6 : (ni i).toNatClampNeg = i := ni_nat (by omega)
    have z0 : is_Z 0 = true := by decide
    have z1 : is_Z 1 = true := by decide
    rw [show k + (d + 1) + 1 = (k + d + 1) + 1 by omega]
    rw [f_M_countLines_b2]
    simp only [mI_0, mP_0, mI_4, mP_4, mI_5, mP_5, mI_6, mP_6, mI_20, mP_20, mI_21, mP_21, mI_22, mP_22, mI_23, mP_23, mI_25, mP_25, mI_27, mP_27, mR_1, mG_1, mS_1, mR_2, mG_2, mS_2, mR_3, mG_3, mS_3, mR_7, mG_7, mS_7, mR_8, mG_8, mS_8, mR_9, mG_9, mS_9, mR_10, mG_10, mS_10, mR_11, mG_11, mS_11, mR_12, mG_12, mS_12, mR_13, mG_13, mS_13, mR_14, mG_14, mS_14, mR_15, mG_15, mS_15, mR_16, mG_16, mS_16, mR_17, mG_17, mS_17, mR_18, mG_18, mS_18, mR_19, mG_19, mS_19, mR_24, mG_24, mS_24, mR_26, mG_26, mS_26, mK_8, gS_1, gS_2, gA_1, gA_2, Option.bind_some, Option.bind_none, h1, h2, eq_self, if_true, if_false, ite_true, ite_false, bd_I, bd_V, bd_A, bd_L, re_I, re_V, Bool.true_and, Bool.and_true, reduceIte, reduceCtorEq, ↓reduceIte, Nat.reduceEqDiff, hg, h4, h6]
    rw [if_neg (niNL (by omega) (by omega) (by omega))]
    have hstep : ∀ g1 : Mg_t, g1 = ln_g g l (ln_1 (g.2 9 l, g.2 11 l) (g.2 19 i)) → f_M_countLines_b2 (k + d + 1) m (ni l) (ni i + 1) (MH m g1 h) = re_V (MH m (ln_g g l ((sl (g.2 19) i (d + 1)).foldl ln_1 (g.2 9 l, g.2 11 l))) h) := by
      intro g1 e1
      subst e1
      rw [ni_p1, ih (i + 1) k _ (by simp only [ln_g, gA_1]; exact hg) (by omega)]
      simp only [sl, List.foldl_cons, ln_g, gA_2, eq_self, if_true, if_false, ite_true, ite_false, bd_I, bd_V, bd_A, bd_L, re_I, re_V, Bool.true_and, Bool.and_true, reduceIte, reduceCtorEq, ↓reduceIte, Nat.reduceEqDiff]
      congr 2
      rw [gA_com _ 11 9 _ _ (by omega), gA_gA, gA_gA, upd_upd, upd_upd]
      simp only [upd, if_true]
    simp only [f_M_countLines_b34, f_M_countLines_b35, f_M_countLines_b58, f_M_countLines_b76, f_M_countLines_b97, mI_0, mP_0, mI_4, mP_4, mI_5, mP_5, mI_6, mP_6, mI_20, mP_20, mI_21, mP_21, mI_22, mP_22, mI_23, mP_23, mI_25, mP_25, mI_27, mP_27, mR_1, mG_1, mS_1, mR_2, mG_2, mS_2, mR_3, mG_3, mS_3, mR_7, mG_7, mS_7, mR_8, mG_8, mS_8, mR_9, mG_9, mS_9, mR_10, mG_10, mS_10, mR_11, mG_11, mS_11, mR_12, mG_12, mS_12, mR_13, mG_13, mS_13, mR_14, mG_14, mS_14, mR_15, mG_15, mS_15, mR_16, mG_16, mS_16, mR_17, mG_17, mS_17, mR_18, mG_18, mS_18, mR_19, mG_19, mS_19, mR_24, mG_24, mS_24, mR_26, mG_26, mS_26, mK_8, gS_1, gS_2, gA_1, gA_2, Option.bind_some, Option.bind_none, h1, h2, eq_self, if_true, if_false, ite_true, ite_false, bd_I, bd_V, bd_A, bd_L, re_I, re_V, Bool.true_and, Bool.and_true, reduceIte, reduceCtorEq, ↓reduceIte, Nat.reduceEqDiff, h4, h6, z0, z1, show ((1 : Int32) = 0) = False by decide]
    by_cases b10 : g.2 19 i = 10
    · have n13 : ¬ ((10 : Int32) = 13) := by decide
      simp only [b10, eq_self, if_true, if_false, ite_true, ite_false, bd_I, bd_V, bd_A, bd_L, re_I, re_V, Bool.true_and, Bool.and_true, reduceIte, reduceCtorEq, ↓reduceIte, Nat.reduceEqDiff, n13]
      by_cases hcr : g.2 11 l = 0
      · rw [if_pos hcr]
        refine hstep _ ?_
        simp only [ln_g, ln_1, b10, hcr, n13, eq_self, if_true, if_false, ite_true, ite_false, bd_I, bd_V, bd_A, bd_L, re_I, re_V, Bool.true_and, Bool.and_true, reduceIte, reduceCtorEq, ↓reduceIte, Nat.reduceEqDiff, and_self, or_true]
      · rw [if_neg hcr]
        refine hstep _ ?_
        simp only [ln_g, ln_1, b10, hcr, n13, eq_self, if_true, if_false, ite_true, ite_false, bd_I, bd_V, bd_A, bd_L, re_I, re_V, Bool.true_and, Bool.and_true, reduceIte, reduceCtorEq, ↓reduceIte, Nat.reduceEqDiff, and_false, or_self, upd_self, gA_self]
    · simp only [b10, eq_self, if_true, if_false, ite_true, ite_false, bd_I, bd_V, bd_A, bd_L, re_I, re_V, Bool.true_and, Bool.and_true, reduceIte, reduceCtorEq, ↓reduceIte, Nat.reduceEqDiff]
      by_cases b13 : g.2 19 i = 13
      · simp only [b13, eq_self, if_true, if_false, ite_true, ite_false, bd_I, bd_V, bd_A, bd_L, re_I, re_V, Bool.true_and, Bool.and_true, reduceIte, reduceCtorEq, ↓reduceIte, Nat.reduceEqDiff]
        refine hstep _ ?_
        simp only [ln_g, ln_1, b13, eq_self, if_true, if_false, ite_true, ite_false, bd_I, bd_V, bd_A, bd_L, re_I, re_V, Bool.true_and, Bool.and_true, reduceIte, reduceCtorEq, ↓reduceIte, Nat.reduceEqDiff, true_or]
      · simp only [b13, eq_self, if_true, if_false, ite_true, ite_false, bd_I, bd_V, bd_A, bd_L, re_I, re_V, Bool.true_and, Bool.and_true, reduceIte, reduceCtorEq, ↓reduceIte, Nat.reduceEqDiff]
        refine hstep _ ?_
        simp only [ln_g, ln_1, b10, b13, eq_self, if_true, if_false, ite_true, ite_false, bd_I, bd_V, bd_A, bd_L, re_I, re_V, Bool.true_and, Bool.and_true, reduceIte, reduceCtorEq, ↓reduceIte, Nat.reduceEqDiff, false_and, or_self, upd_self]
        rw [gA_self]
/-- code: the answer's row after coding from i -/
def cd_f (key cd : Int32) (f : Nat → Int32) (i d : Nat) : Nat → Int32 := fun j => if i ≤ j ∧ j < i + d then (f j ^^^ ((key + cd) + ni j)) &&& 255 else f j
theorem cd_st (key cd : Int32) (f : Nat → Int32) (i d : Nat) : cd_f key cd (upd f i ((f i ^^^ ((key + cd) + ni i)) &&& 255)) (i + 1) d = cd_f key cd f i (d + 1) := by
  funext j
  simp only [cd_f, upd]
  by_cases q1 : i + 1 ≤ j ∧ j < i + 1 + d
  · rw [if_pos q1, if_neg (by omega), if_pos (by omega)]
  · rw [if_neg q1]
    by_cases q2 : j = i
    · rw [if_pos q2, if_pos (by omega), q2]
    · rw [if_neg q2, if_neg (by omega)]
theorem M_pass_b54 (m : Nat) (h : Hs_t) (l c : Nat) (hl : l < 5) (hc : c ≤ 120) (d : Nat) : ∀ (i k : Nat) (g : Mg_t), g.1 20 = ni c → i + d = c → f_M_pass_b54 (k + d + 1) m (ni l) (ni i) (MH m g h) = f_M_pass_b117 m (ni l) (MH m (gA (gA g 19 (cd_f (g.2 8 l) (g.2 9 l) (g.2 19) i d)) 9 (upd (g.2 9) l (g.2 9 l + ni c))) h) := by
  have h1 : in_R (ni l) 5 = true := ni_in_t (by omega) hl
  have h2 : (ni l).toNatClampNeg = l := ni_nat (by omega)
  induction d with
  | zero =>
    intro i k g hg hi
    rw [f_M_pass_b54]
    simp only [mI_0, mP_0, mI_4, mP_4, mI_5, mP_5, mI_6, mP_6, mI_20, mP_20, mI_21, mP_21, mI_22, mP_22, mI_23, mP_23, mI_25, mP_25, mI_27, mP_27, mR_1, mG_1, mS_1, mR_2, mG_2, mS_2, mR_3, mG_3, mS_3, mR_7, mG_7, mS_7, mR_8, mG_8, mS_8, mR_9, mG_9, mS_9, mR_10, mG_10, mS_10, mR_11, mG_11, mS_11, mR_12, mG_12, mS_12, mR_13, mG_13, mS_13, mR_14, mG_14, mS_14, mR_15, mG_15, mS_15, mR_16, mG_16, mS_16, mR_17, mG_17, mS_17, mR_18, mG_18, mS_18, mR_19, mG_19, mS_19, mR_24, mG_24, mS_24, mR_26, mG_26, mS_26, mK_8, gS_1, gS_2, gA_1, gA_2, Option.bind_some, Option.bind_none, h1, h2, eq_self, if_true, if_false, ite_true, ite_false, bd_I, bd_V, bd_A, bd_L, re_I, re_V, Bool.true_and, Bool.and_true, reduceIte, reduceCtorEq, ↓reduceIte, Nat.reduceEqDiff, hg]
    rw [if_pos (niL (by omega) (by omega) (by omega))]
    rw [show cd_f (g.2 8 l) (g.2 9 l) (g.2 19) i 0 = g.2 19 by funext j; simp only [cd_f]; rw [if_neg (by omega)], gA_self]
  | succ d ih =>
    intro i k g hg hi
    have h4 : in_R (ni i) 120 = true := ni_in_t (by omega) (by omega)
    have h6 : (ni i).toNatClampNeg = i := ni_nat (by omega)
    rw [show k + (d + 1) + 1 = (k + d + 1) + 1 by omega]
    rw [f_M_pass_b54]
    simp only [mI_0, mP_0, mI_4, mP_4, mI_5, mP_5, mI_6, mP_6, mI_20, mP_20, mI_21, mP_21, mI_22, mP_22, mI_23, mP_23, mI_25, mP_25, mI_27, mP_27, mR_1, mG_1, mS_1, mR_2, mG_2, mS_2, mR_3, mG_3, mS_3, mR_7, mG_7, mS_7, mR_8, mG_8, mS_8, mR_9, mG_9, mS_9, mR_10, mG_10, mS_10, mR_11, mG_11, mS_11, mR_12, mG_12, mS_12, mR_13, mG_13, mS_13, mR_14, mG_14, mS_14, mR_15, mG_15, mS_15, mR_16, mG_16, mS_16, mR_17, mG_17, mS_17, mR_18, mG_18, mS_18, mR_19, mG_19, mS_19, mR_24, mG_24, mS_24, mR_26, mG_26, mS_26, mK_8, gS_1, gS_2, gA_1, gA_2, Option.bind_some, Option.bind_none, h1, h2, eq_self, if_true, if_false, ite_true, ite_false, bd_I, bd_V, bd_A, bd_L, re_I, re_V, Bool.true_and, Bool.and_true, reduceIte, reduceCtorEq, ↓reduceIte, Nat.reduceEqDiff, hg, h4, h6]
    rw [if_neg (niNL (by omega) (by omega) (by omega)), ni_p1]
    rw [ih (i + 1) k _ (by simp only [gA_1]; exact hg) (by omega)]
    simp only [gA_gA, gA_2, eq_self, if_true, if_false, ite_true, ite_false, bd_I, bd_V, bd_A, bd_L, re_I, re_V, Bool.true_and, Bool.and_true, reduceIte, reduceCtorEq, ↓reduceIte, Nat.reduceEqDiff]
    rw [cd_st]
theorem cd_sl (key : Int32) (f : Nat → Int32) (n : Nat) : ∀ (i : Nat) (cd : Int32), by_A (sl f i n) → sl (fun j => (f j ^^^ ((key + cd) + ni (j - i))) &&& 255) i n = cd_N key cd (sl f i n) := by
  induction n with
  | zero => intro i cd _; rfl
  | succ n ih =>
    intro i cd hb
    simp only [sl, cd_N]
    congr 1
    · rw [Nat.sub_self, by_cod (hb _ (by simp [sl]))]
      rw [show ni 0 = 0 from rfl, Int32.add_zero]
    · rw [← ih (i + 1) (cd + 1) (fun b hb2 => hb b (by simp only [sl, List.mem_cons]; exact Or.inr hb2))]
      refine sl_congr fun k hk => ?_
      rw [show i + 1 + k - i = k + 1 by omega, show i + 1 + k - (i + 1) = k by omega]
      rw [show ni (k + 1) = 1 + ni k by rw [ni_1, ni_add]; congr 1; omega]
      rw [← Int32.add_assoc (key + cd), Int32.add_assoc key cd 1]
theorem M_pass_b134 (m : Nat) (h : Hs_t) (l hv c : Nat) (hl : l < 5) (hc : hv + c ≤ 64) (d : Nat) : ∀ (i k : Nat) (g : Mg_t), g.1 20 = ni c → g.2 14 l = ni hv → i + d = c → f_M_pass_b134 (k + d + 1) m (ni l) (ni i) (MH m g h) = f_M_pass_b134 (k + 1) m (ni l) (ni c) (MH m (gA g 13 (va_cpy (g.2 19) (g.2 13) i (64 * l + hv + i) d)) h) := by
  have h1 : in_R (ni l) 5 = true := ni_in_t (by omega) hl
  have h2 : (ni l).toNatClampNeg = l := ni_nat (by omega)
  induction d with
  | zero =>
    intro i k g hg hg2 hi
    rw [cpy_0, gA_self, show i = c by omega]
  | succ d ih =>
    intro i k g hg hg2 hi
    have h3 : in_R (ni (64 * l + hv + i)) 320 = true := ni_in_t (by omega) (by omega)
    have h4 : in_R (ni i) 120 = true := ni_in_t (by omega) (by omega)
    have h5 : (ni (64 * l + hv + i)).toNatClampNeg = 64 * l + hv + i := ni_nat (by omega)
    have h6 : (ni i).toNatClampNeg = i := ni_nat (by omega)
    rw [show k + (d + 1) + 1 = (k + d + 1) + 1 by omega]
    rw [f_M_pass_b134]
    simp only [mI_0, mP_0, mI_4, mP_4, mI_5, mP_5, mI_6, mP_6, mI_20, mP_20, mI_21, mP_21, mI_22, mP_22, mI_23, mP_23, mI_25, mP_25, mI_27, mP_27, mR_1, mG_1, mS_1, mR_2, mG_2, mS_2, mR_3, mG_3, mS_3, mR_7, mG_7, mS_7, mR_8, mG_8, mS_8, mR_9, mG_9, mS_9, mR_10, mG_10, mS_10, mR_11, mG_11, mS_11, mR_12, mG_12, mS_12, mR_13, mG_13, mS_13, mR_14, mG_14, mS_14, mR_15, mG_15, mS_15, mR_16, mG_16, mS_16, mR_17, mG_17, mS_17, mR_18, mG_18, mS_18, mR_19, mG_19, mS_19, mR_24, mG_24, mS_24, mR_26, mG_26, mS_26, mK_8, gS_1, gS_2, gA_1, gA_2, Option.bind_some, Option.bind_none, h1, h2, eq_self, if_true, if_false, ite_true, ite_false, bd_I, bd_V, bd_A, bd_L, re_I, re_V, Bool.true_and, Bool.and_true, reduceIte, reduceCtorEq, ↓reduceIte, Nat.reduceEqDiff, hg, hg2, ni_64, ni_add, h3, h4, h5, h6]
    rw [if_neg (niNL (by omega) (by omega) (by omega)), ni_p1]
    rw [ih (i + 1) k _ (by simp only [gA_1]; exact hg) (by simp only [gA_2]; exact hg2) (by omega)]
    simp only [gA_gA, gA_2, eq_self, if_true, if_false, ite_true, ite_false, bd_I, bd_V, bd_A, bd_L, re_I, re_V, Bool.true_and, Bool.and_true, reduceIte, reduceCtorEq, ↓reduceIte, Nat.reduceEqDiff]
    rw [show 64 * l + hv + (i + 1) = (64 * l + hv + i) + 1 by omega, cpy_step]
