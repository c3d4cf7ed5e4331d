/-! The reference's request is rq. -/
def RMl (g : Mg_t) : List Ly_t → Prop
  | [] => True
  | L :: ls => RLm g ls.length L ∧ RMl g ls
def RSm (g : Mg_t) (s : Sr_t) : Prop := g.2 1 = s.1 ∧ (∀ j, 1 ≤ j → g.2 2 j = s.2.1 j) ∧ g.2 3 = s.2.2.1 ∧ g.1 4 = ni s.2.2.2.1 ∧ g.1 5 = ni s.2.2.2.2
theorem iv_sr {ls : List Ly_t} {s : Sr_t} (h : iv_O ls s) : sr_O s := by
  induction ls with
  | nil => exact h
  | cons L ls ih => exact ih h.2.2
theorem RMl.frame {g g' : Mg_t} {lo hi : Nat} {s : Sr_t} {ls : List Ly_t} (hv : iv_O ls s) (hF : FR lo hi g g') (hl : ls.length ≤ lo) (h : RMl g ls) : RMl g' ls := by
  induction ls with
  | nil => trivial
  | cons L ls ih =>
    have h0 : ls.length + 1 ≤ lo := hl
    exact ⟨h.1.frame hv.1 hF (Or.inl (by omega)), ih hv.2.2 (by omega) h.2⟩
theorem RSm.frame {g g' : Mg_t} {lo hi : Nat} {s : Sr_t} (hF : FR lo hi g g') (h5 : g'.1 5 = g.1 5) (h : RSm g s) : RSm g' s := by
  obtain ⟨a1, a2, a3, a4, a5⟩ := h
  refine ⟨by rw [hF.2.1 1 (by simp)]; exact a1, fun j hj => by rw [hF.2.1 2 (by simp)]; exact a2 j hj, by rw [hF.2.1 3 (by simp)]; exact a3, by rw [hF.1 4 (by omega) (by omega)]; exact a4, by rw [h5]; exact a5⟩
theorem M_portionLeft_b5 (m : Nat) (h : Hs_t) (g : Mg_t) (s : Sr_t) (hs : RSm g s) (ho : sr_O s) (d : Nat) : ∀ (e k : Nat), s.2.2.2.2 ≤ e → e + d = s.2.2.2.1 → f_M_portionLeft_b5 (k + d + 1) m (ni e) (MH m g h) = re_I (ni (pe_N s.2.1 s.2.2.2.1 s.2.2.2.2 d e - s.2.2.2.2)) (MH m g h) := by
  obtain ⟨a1, a2, a3, a4, a5⟩ := hs
  have o1 := ho.1; have o2 := ho.2.1
  induction d with
  | zero =>
    intro e k he hd
    rw [f_M_portionLeft_b5]
    simp only [mI_0, mP_0, mI_4, mP_4, mI_5, mP_5, mI_6, mP_6, mI_20, mP_20, mI_21, mP_21, mI_22, mP_22, mI_23, mP_23, mI_25, mP_25, mI_27, mP_27, mR_1, mG_1, mS_1, mR_2, mG_2, mS_2, mR_3, mG_3, mS_3, mR_7, mG_7, mS_7, mR_8, mG_8, mS_8, mR_9, mG_9, mS_9, mR_10, mG_10, mS_10, mR_11, mG_11, mS_11, mR_12, mG_12, mS_12, mR_13, mG_13, mS_13, mR_14, mG_14, mS_14, mR_15, mG_15, mS_15, mR_16, mG_16, mS_16, mR_17, mG_17, mS_17, mR_18, mG_18, mS_18, mR_19, mG_19, mS_19, mR_24, mG_24, mS_24, mR_26, mG_26, mS_26, mK_8, gS_1, gS_2, gA_1, gA_2, Option.bind_some, Option.bind_none, eq_self, if_true, if_false, ite_true, ite_false, bd_I, bd_V, bd_A, bd_L, re_I, re_V, Bool.true_and, Bool.and_true, reduceIte, reduceCtorEq, ↓reduceIte, Nat.reduceEqDiff, a4, f_M_portionLeft_b36, a5, pe_N]
    rw [if_pos (niL (by omega) (by omega) (by omega)), ni_sub he]
  | succ d ih =>
    intro e k he hd
    have h3 : in_R (ni e) 121 = true := ni_in_t (by omega) (by omega)
    have h5 : (ni e).toNatClampNeg = e := ni_nat (by omega)
    rw [show k + (d + 1) + 1 = (k + d + 1) + 1 by omega]
    rw [f_M_portionLeft_b5]
    simp only [mI_0, mP_0, mI_4, mP_4, mI_5, mP_5, mI_6, mP_6, mI_20, mP_20, mI_21, mP_21, mI_22, mP_22, mI_23, mP_23, mI_25, mP_25, mI_27, mP_27, mR_1, mG_1, mS_1, mR_2, mG_2, mS_2, mR_3, mG_3, mS_3, mR_7, mG_7, mS_7, mR_8, mG_8, mS_8, mR_9, mG_9, mS_9, mR_10, mG_10, mS_10, mR_11, mG_11, mS_11, mR_12, mG_12, mS_12, mR_13, mG_13, mS_13, mR_14, mG_14, mS_14, mR_15, mG_15, mS_15, mR_16, mG_16, mS_16, mR_17, mG_17, mS_17, mR_18, mG_18, mS_18, mR_19, mG_19, mS_19, mR_24, mG_24, mS_24, mR_26, mG_26, mS_26, mK_8, gS_1, gS_2, gA_1, gA_2, Option.bind_some, Option.bind_none, eq_self, if_true, if_false, ite_true, ite_false, bd_I, bd_V, bd_A, bd_L, re_I, re_V, Bool.true_and, Bool.and_true, reduceIte, reduceCtorEq, ↓reduceIte, Nat.reduceEqDiff, a4, f_M_portionLeft_b36, a5, pe_N, f_M_portionLeft_b30, h3, h5]
    rw [if_neg (niNL (by omega) (by omega) (by omega)), ni_p1, ih (e + 1) k (by omega) (by omega)]
    by_cases h1 : e = s.2.2.2.2
    · rw [if_pos (by rw [h1]), if_pos ⟨by omega, Or.inl h1⟩]; rfl
    · rw [if_neg (niNE (by omega) (by omega) h1), a2 e (by omega)]
      by_cases h2 : s.2.1 e = 0
      · rw [if_pos h2, if_pos ⟨by omega, Or.inr h2⟩]; rfl
      · rw [if_neg h2, if_neg (fun q => q.2.elim h1 h2), ni_sub he]
theorem M_portionLeft (m : Nat) (h : Hs_t) (g : Mg_t) (s : Sr_t) (hs : RSm g s) (ho : sr_O s) : f_M_portionLeft m (MH m g h) = re_I (ni (pl_N s)) (MH m g h) := by
  have e := M_portionLeft_b5 m h g s hs ho (s.2.2.2.1 - s.2.2.2.2) s.2.2.2.2 (fu_N - (s.2.2.2.1 - s.2.2.2.2) - 1) (Nat.le_refl _) (by have := ho.1; omega)
  rw [show fu_N - (s.2.2.2.1 - s.2.2.2.2) - 1 + (s.2.2.2.1 - s.2.2.2.2) + 1 = fu_N by have := ho.2.1; simp only [fu_N]; omega] at e
  rw [f_M_portionLeft]
  simp only [mI_0, mP_0, mI_4, mP_4, mI_5, mP_5, mI_6, mP_6, mI_20, mP_20, mI_21, mP_21, mI_22, mP_22, mI_23, mP_23, mI_25, mP_25, mI_27, mP_27, mR_1, mG_1, mS_1, mR_2, mG_2, mS_2, mR_3, mG_3, mS_3, mR_7, mG_7, mS_7, mR_8, mG_8, mS_8, mR_9, mG_9, mS_9, mR_10, mG_10, mS_10, mR_11, mG_11, mS_11, mR_12, mG_12, mS_12, mR_13, mG_13, mS_13, mR_14, mG_14, mS_14, mR_15, mG_15, mS_15, mR_16, mG_16, mS_16, mR_17, mG_17, mS_17, mR_18, mG_18, mS_18, mR_19, mG_19, mS_19, mR_24, mG_24, mS_24, mR_26, mG_26, mS_26, mK_8, gS_1, gS_2, gA_1, gA_2, Option.bind_some, Option.bind_none, hs.2.2.2.2]
  exact e
theorem M_request_b96 (m : Nat) (h : Hs_t) (x2 : Int32) (t c : Nat) (hc : t + c ≤ 120) (d : Nat) : ∀ (i k : Nat) (g : Mg_t), g.1 20 = ni c → g.1 5 = ni t → i + d = c → f_M_request_b96 (k + d + 1) m x2 (ni i) (MH m g h) = f_M_request_b143 m x2 (MH m (gS (gA g 19 (va_cpy (g.2 1) (g.2 19) (t + i) i d)) 5 (ni (t + c))) h) := by
  induction d with
  | zero =>
    intro i k g hg hg2 hi
    rw [f_M_request_b96]
    simp only [mI_0, mP_0, mI_4, mP_4, mI_5, mP_5, mI_6, mP_6, mI_20, mP_20, mI_21, mP_21, mI_22, mP_22, mI_23, mP_23, mI_25, mP_25, mI_27, mP_27, mR_1, mG_1, mS_1, mR_2, mG_2, mS_2, mR_3, mG_3, mS_3, mR_7, mG_7, mS_7, mR_8, mG_8, mS_8, mR_9, mG_9, mS_9, mR_10, mG_10, mS_10, mR_11, mG_11, mS_11, mR_12, mG_12, mS_12, mR_13, mG_13, mS_13, mR_14, mG_14, mS_14, mR_15, mG_15, mS_15, mR_16, mG_16, mS_16, mR_17, mG_17, mS_17, mR_18, mG_18, mS_18, mR_19, mG_19, mS_19, mR_24, mG_24, mS_24, mR_26, mG_26, mS_26, mK_8, gS_1, gS_2, gA_1, gA_2, Option.bind_some, Option.bind_none, eq_self, if_true, if_false, ite_true, ite_false, bd_I, bd_V, bd_A, bd_L, re_I, re_V, Bool.true_and, Bool.and_true, reduceIte, reduceCtorEq, ↓reduceIte, Nat.reduceEqDiff, hg, hg2, ni_add]
    rw [if_pos (niL (by omega) (by omega) (by omega)), cpy_0, gA_self]
  | succ d ih =>
    intro i k g hg hg2 hi
    have h3 : in_R (ni (t + i)) 120 = true := ni_in_t (by omega) (by omega)
    have h4 : in_R (ni i) 120 = true := ni_in_t (by omega) (by omega)
    have h5 : (ni (t + i)).toNatClampNeg = t + i := ni_nat (by omega)
    have h6 : (ni i).toNatClampNeg = i := ni_nat (by omega)
    rw [show k + (d + 1) + 1 = (k + d + 1) + 1 by omega]
    rw [f_M_request_b96]
    simp only [mI_0, mP_0, mI_4, mP_4, mI_5, mP_5, mI_6, mP_6, mI_20, mP_20, mI_21, mP_21, mI_22, mP_22, mI_23, mP_23, mI_25, mP_25, mI_27, mP_27, mR_1, mG_1, mS_1, mR_2, mG_2, mS_2, mR_3, mG_3, mS_3, mR_7, mG_7, mS_7, mR_8, mG_8, mS_8, mR_9, mG_9, mS_9, mR_10, mG_10, mS_10, mR_11, mG_11, mS_11, mR_12, mG_12, mS_12, mR_13, mG_13, mS_13, mR_14, mG_14, mS_14, mR_15, mG_15, mS_15, mR_16, mG_16, mS_16, mR_17, mG_17, mS_17, mR_18, mG_18, mS_18, mR_19, mG_19, mS_19, mR_24, mG_24, mS_24, mR_26, mG_26, mS_26, mK_8, gS_1, gS_2, gA_1, gA_2, Option.bind_some, Option.bind_none, eq_self, if_true, if_false, ite_true, ite_false, bd_I, bd_V, bd_A, bd_L, re_I, re_V, Bool.true_and, Bool.and_true, reduceIte, reduceCtorEq, ↓reduceIte, Nat.reduceEqDiff, hg, hg2, ni_add, h3, h4, h5, h6]
    rw [if_neg (niNL (by omega) (by omega) (by omega)), ni_p1]
    rw [ih (i + 1) k _ (by simp only [gA_1]; exact hg) (by simp only [gA_1]; exact hg2) (by omega)]
    simp only [gA_gA, gA_2, eq_self, if_true, if_false, ite_true, ite_false, bd_I, bd_V, bd_A, bd_L, re_I, re_V, Bool.true_and, Bool.and_true, reduceIte, reduceCtorEq, ↓reduceIte, Nat.reduceEqDiff]
    rw [show t + (i + 1) = (t + i) + 1 by omega, cpy_step]
/-- how the reference goes on when a request below has ended -/
def rm_K (m : Nat) (h : Hs_t) (ls : List Ly_t) (g : Mg_t) (F : Rs_t) (r : Rq_t) : Prop := match r with
  | (none, ls1, s1) => ∃ g', F = re_Z 0 (MH m g' h) ∧ RMl g' ls1 ∧ RSm g' s1 ∧ FR 0 ls.length g g'
  | (some bs, ls1, s1) => ∃ g' k, F = f_M_request_b148 k m (ni ls.length) (MH m g' h) ∧ fu_N ≤ k + ls.length ∧ RMl g' ls1 ∧ RSm g' s1 ∧ AN g' bs ∧ FR 0 ls.length g g'
theorem ni_m1 (a : Nat) : ni a + (-1) = ni a - 1 := by rw [Int32.sub_eq_add_neg]
theorem ni_s1 (a : Nat) : ni (a + 1) - 1 = ni a := by rw [ni_1, ni_sub (by omega)]; rfl
theorem M_req_b12 (m : Nat) (h : Hs_t) (ls : List Ly_t) : ∀ (n k : Nat) (s : Sr_t) (g : Mg_t), RMl g ls → RSm g s → iv_O ls s → 1 ≤ n → n ≤ 120 → ls.length ≤ 5 → g.1 6 = ni 5 ∨ (∃ q, g.1 6 = ni q ∧ ls.length ≤ q ∧ q ≤ 5) → rm_K m h ls g (f_M_request_b12 (k + ls.length + 2) m (ni ls.length - 1) (ni n) 0 (MH m g h)) (rq ls n s) := by
  induction ls with
  | nil =>
    intro n k s g hR hS hv hn0 hn hL h6
    have o1 := hv.1; have o2 := hv.2.1
    have hp := pl_le s hv.1
    have e1 : (ni ([] : List Ly_t).length - 1 < 0) := by decide
    rw [f_M_request_b12, if_pos e1, f_M_request_b52, if_pos rfl]
    have h3 : in_R (ni s.2.2.2.2) 121 = true := ni_in_t (by omega) (by omega)
    have h5 : (ni s.2.2.2.2).toNatClampNeg = s.2.2.2.2 := ni_nat (by omega)
    simp only [mI_0, mP_0, mI_4, mP_4, mI_5, mP_5, mI_6, mP_6, mI_20, mP_20, mI_21, mP_21, mI_22, mP_22, mI_23, mP_23, mI_25, mP_25, mI_27, mP_27, mR_1, mG_1, mS_1, mR_2, mG_2, mS_2, mR_3, mG_3, mS_3, mR_7, mG_7, mS_7, mR_8, mG_8, mS_8, mR_9, mG_9, mS_9, mR_10, mG_10, mS_10, mR_11, mG_11, mS_11, mR_12, mG_12, mS_12, mR_13, mG_13, mS_13, mR_14, mG_14, mS_14, mR_15, mG_15, mS_15, mR_16, mG_16, mS_16, mR_17, mG_17, mS_17, mR_18, mG_18, mS_18, mR_19, mG_19, mS_19, mR_24, mG_24, mS_24, mR_26, mG_26, mS_26, mK_8, gS_1, gS_2, gA_1, gA_2, Option.bind_some, Option.bind_none, eq_self, if_true, if_false, ite_true, ite_false, bd_I, bd_V, bd_A, bd_L, re_I, re_V, Bool.true_and, Bool.and_true, reduceIte, reduceCtorEq, ↓reduceIte, Nat.reduceEqDiff, hS.2.2.2.2, hS.2.2.1, h3, h5, M_portionLeft m h g s hS hv]
    simp only [rq]
    by_cases hb : s.2.2.1 s.2.2.2.2 = 0
    · rw [if_pos hb, if_neg (show ¬ (s.2.2.1 s.2.2.2.2 ≠ 0) from fun q => q hb)]
      have e2 : (if ni (pl_N s) ≤ ni n then f_M_request_b90 m (ni ([] : List Ly_t).length - 1) (ni (pl_N s)) m (MH m g h) else f_M_request_b90 m (ni ([] : List Ly_t).length - 1) (ni n) m (MH m g h)) = f_M_request_b90 m (ni ([] : List Ly_t).length - 1) (ni (min n (pl_N s))) m (MH m g h) := by
        by_cases hq : pl_N s ≤ n
        · rw [if_pos (niL (by omega) (by omega) hq), show min n (pl_N s) = pl_N s by omega]
        · rw [if_neg (niNL (by omega) (by omega) (by omega)), show min n (pl_N s) = n by omega]
      rw [e2, f_M_request_b90]
      simp only [mI_0, mP_0, mI_4, mP_4, mI_5, mP_5, mI_6, mP_6, mI_20, mP_20, mI_21, mP_21, mI_22, mP_22, mI_23, mP_23, mI_25, mP_25, mI_27, mP_27, mR_1, mG_1, mS_1, mR_2, mG_2, mS_2, mR_3, mG_3, mS_3, mR_7, mG_7, mS_7, mR_8, mG_8, mS_8, mR_9, mG_9, mS_9, mR_10, mG_10, mS_10, mR_11, mG_11, mS_11, mR_12, mG_12, mS_12, mR_13, mG_13, mS_13, mR_14, mG_14, mS_14, mR_15, mG_15, mS_15, mR_16, mG_16, mS_16, mR_17, mG_17, mS_17, mR_18, mG_18, mS_18, mR_19, mG_19, mS_19, mR_24, mG_24, mS_24, mR_26, mG_26, mS_26, mK_8, gS_1, gS_2, gA_1, gA_2, Option.bind_some, Option.bind_none]
      have e3 := M_request_b96 m h (ni ([] : List Ly_t).length - 1) s.2.2.2.2 (min n (pl_N s)) (by omega) (min n (pl_N s)) 0 (fu_N - min n (pl_N s) - 1) (gS g 20 (ni (min n (pl_N s)))) rfl hS.2.2.2.2 (by omega)
      rw [show fu_N - min n (pl_N s) - 1 + min n (pl_N s) + 1 = fu_N by simp only [fu_N]; omega] at e3
      rw [show (0 : Int32) = ni 0 from rfl, e3, f_M_request_b143]
      refine ⟨_, fu_N, rfl, Nat.le_add_right _ _, trivial, ?_, ?_, ?_⟩
      · refine ⟨hS.1, hS.2.1, hS.2.2.1, hS.2.2.2.1, rfl⟩
      · refine ⟨by rw [sl_len]; rfl, ?_⟩
        rw [sl_len]
        simp only [gS_2, gA_2, eq_self, if_true, if_false, ite_true, ite_false, bd_I, bd_V, bd_A, bd_L, re_I, re_V, Bool.true_and, Bool.and_true, reduceIte, reduceCtorEq, ↓reduceIte, Nat.reduceEqDiff]
        rw [sl_cpy, hS.1]; rfl
      · exact FR.trans (FR.trans (FR_S (Or.inl rfl)) FR_19) (FR_S (Or.inr rfl))
    · rw [if_neg hb, if_pos hb]
      exact ⟨g, rfl, trivial, hS, FR.refl _ _ _⟩
  | cons L ls ih =>
    intro n k s g hR hS hv hn0 hn hL h6
    have hl : ls.length < 5 := hL
    have h1 : in_R (ni ls.length) 5 = true := ni_in_t (by omega) hl
    have h2 : (ni ls.length).toNatClampNeg = ls.length := ni_nat (by omega)
    have hO := hv.1
    have e1 : ni (L :: ls).length - 1 = ni ls.length := ni_s1 ls.length
    rw [show k + (L :: ls).length + 2 = (k + ls.length + 2) + 1 by simp only [List.length_cons]; omega, e1, f_M_request_b12, if_neg (ni_nn (by omega)), if_pos rfl]
    simp only [mI_0, mP_0, mI_4, mP_4, mI_5, mP_5, mI_6, mP_6, mI_20, mP_20, mI_21, mP_21, mI_22, mP_22, mI_23, mP_23, mI_25, mP_25, mI_27, mP_27, mR_1, mG_1, mS_1, mR_2, mG_2, mS_2, mR_3, mG_3, mS_3, mR_7, mG_7, mS_7, mR_8, mG_8, mS_8, mR_9, mG_9, mS_9, mR_10, mG_10, mS_10, mR_11, mG_11, mS_11, mR_12, mG_12, mS_12, mR_13, mG_13, mS_13, mR_14, mG_14, mS_14, mR_15, mG_15, mS_15, mR_16, mG_16, mS_16, mR_17, mG_17, mS_17, mR_18, mG_18, mS_18, mR_19, mG_19, mS_19, mR_24, mG_24, mS_24, mR_26, mG_26, mS_26, mK_8, gS_1, gS_2, gA_1, gA_2, Option.bind_some, Option.bind_none, h1, h2, eq_self, if_true, if_false, ite_true, ite_false, bd_I, bd_V, bd_A, bd_L, re_I, re_V, Bool.true_and, Bool.and_true, reduceIte, reduceCtorEq, ↓reduceIte, Nat.reduceEqDiff]
    -- asked
    have hg1 : RLm (gA g 18 (upd (g.2 18) ls.length (ni n))) ls.length L := by
      have := hR.1
      match L, this with
      | .inl (rm, kp, tg, mq), q => exact q
      | .inr (.inl (rm, st)), q => exact q
      | .inr (.inr (.inl (lf, lm))), q => exact q
      | .inr (.inr (.inr (.inl (key, cd, cm)))), q => exact q
      | .inr (.inr (.inr (.inr (e, em, cr, crm)))), q => exact q
    have hF1 : FR ls.length (ls.length + 1) g (gA g 18 (upd (g.2 18) ls.length (ni n))) := FR_18
    have ha1 : (gA g 18 (upd (g.2 18) ls.length (ni n))).2 18 ls.length = ni n := by simp only [gA_2, eq_self, if_true, if_false, ite_true, ite_false, bd_I, bd_V, bd_A, bd_L, re_I, re_V, Bool.true_and, Bool.and_true, reduceIte, reduceCtorEq, ↓reduceIte, Nat.reduceEqDiff, upd]
    have hRl1 : RMl (gA g 18 (upd (g.2 18) ls.length (ni n))) ls := hR.2.frame hv.2.2 hF1 (Nat.le_refl _)
    have hS1 : RSm (gA g 18 (upd (g.2 18) ls.length (ni n))) s := hS.frame hF1 rfl
    have h61 : (gA g 18 (upd (g.2 18) ls.length (ni n))).1 6 = g.1 6 := rfl
    generalize gA g 18 (upd (g.2 18) ls.length (ni n)) = g1 at *
    rw [rq_cons]
    have hA := M_answers m h ls.length n hl hn0 hn g1 L hO hg1 ha1
    cases hN : an_L L n with
    | some p =>
      rw [hN] at hA
      obtain ⟨g2, q1, q2, q3, q4, q5⟩ := hA
      simp only [q1, re_Z1, eq_self, if_true, if_false, ite_true, ite_false, bd_I, bd_V, bd_A, bd_L, re_I, re_V, Bool.true_and, Bool.and_true, reduceIte, reduceCtorEq, ↓reduceIte, Nat.reduceEqDiff, show ((1 : Int32) = 0) = False by decide]
      rw [f_M_request_b12, if_neg (ni_nn (by omega)), if_neg (by decide), f_M_request_b52, if_neg (by decide), f_M_request_b143, ni_p1]
      exact ⟨g2, fu_N, rfl, Nat.le_add_right _ _, ⟨q2, hRl1.frame hv.2.2 q4 (Nat.le_refl _)⟩, hS1.frame q4 q5, q3, (hF1.trans q4).mono (Nat.zero_le _) (Nat.le_refl _)⟩
    | none =>
      rw [hN] at hA
      have hbe1 := be_1 hO hn0 hN
      have hbe2 := be_le hO hn
      simp only [hA, re_Z0, eq_self, if_true, if_false, ite_true, ite_false, bd_I, bd_V, bd_A, bd_L, re_I, re_V, Bool.true_and, Bool.and_true, reduceIte, reduceCtorEq, ↓reduceIte, Nat.reduceEqDiff, M_below m h ls.length n hl hn g1 L hO hg1 ha1, mI_0, mP_0, mI_4, mP_4, mI_5, mP_5, mI_6, mP_6, mI_20, mP_20, mI_21, mP_21, mI_22, mP_22, mI_23, mP_23, mI_25, mP_25, mI_27, mP_27, mR_1, mG_1, mS_1, mR_2, mG_2, mS_2, mR_3, mG_3, mS_3, mR_7, mG_7, mS_7, mR_8, mG_8, mS_8, mR_9, mG_9, mS_9, mR_10, mG_10, mS_10, mR_11, mG_11, mS_11, mR_12, mG_12, mS_12, mR_13, mG_13, mS_13, mR_14, mG_14, mS_14, mR_15, mG_15, mS_15, mR_16, mG_16, mS_16, mR_17, mG_17, mS_17, mR_18, mG_18, mS_18, mR_19, mG_19, mS_19, mR_24, mG_24, mS_24, mR_26, mG_26, mS_26, mK_8, gS_1, gS_2, gA_1, gA_2, Option.bind_some, Option.bind_none, ni_m1]
      have hI := ih (be_L L n) k s g1 hRl1 hS1 hv.2.2 hbe1 hbe2 (by omega) (by rw [h61]; rcases h6 with h6 | ⟨q, q1, q2, q3⟩; exact Or.inl h6; exact Or.inr ⟨q, q1, by simp only [List.length_cons] at q2; omega, q3⟩)
      have hK := rq_iv ls (be_L L n) s hbe1 hv.2.2
      generalize rq ls (be_L L n) s = r at *
      generalize f_M_request_b12 (k + ls.length + 2) m (ni ls.length - 1) (ni (be_L L n)) 0 (MH m g1 h) = F at *
      match r, hI, hK with
      | (none, ls1, s1), hI, hK =>
        obtain ⟨g', q1, q2, q3, q4⟩ := hI
        exact ⟨g', q1, ⟨by rw [show ls1.length = ls.length from hK.2.1]; exact hg1.frame hO q4 (Or.inr (Nat.le_refl _)), q2⟩, q3, (hF1.mono (Nat.zero_le _) (Nat.le_refl _)).trans (q4.mono (Nat.le_refl _) (Nat.le_succ _))⟩
      | (some bs, ls1, s1), hI, hK =>
        obtain ⟨g2, k2, q1, q2, q3, q4, q5, q6⟩ := hI
        have hb := hK.2.2.2.2.2.2.2.2 bs rfl
        have hlen : ls1.length = ls.length := hK.2.1
        obtain ⟨g3, p1, p2, p3, p4, p5⟩ := M_pass m h ls.length n hl hn g2 L hO (hg1.frame hO q6 (Or.inr (Nat.le_refl _))) (by rw [q6.2.2.1 18 (by simp) _ (Or.inr (Nat.le_refl _))]; exact ha1) hN bs q5 hb.2.1 hb.1
        have hk2 : k2 = (k2 - 1) + 1 := by simp only [fu_N] at q2; omega
        have h62 : g2.1 6 = g.1 6 := by rw [q6.1 6 (by omega) (by omega)]; exact h61
        refine ⟨g3, k2 - 1, ?_, by simp only [List.length_cons]; simp only [fu_N] at *; omega, ⟨by rw [hlen]; exact p2, q3.frame hK.1 p4 (by omega)⟩, q4.frame p4 p5, p3, ?_⟩
        · rw [q1, hk2, f_M_request_b148]
          simp only [mI_0, mP_0, mI_4, mP_4, mI_5, mP_5, mI_6, mP_6, mI_20, mP_20, mI_21, mP_21, mI_22, mP_22, mI_23, mP_23, mI_25, mP_25, mI_27, mP_27, mR_1, mG_1, mS_1, mR_2, mG_2, mS_2, mR_3, mG_3, mS_3, mR_7, mG_7, mS_7, mR_8, mG_8, mS_8, mR_9, mG_9, mS_9, mR_10, mG_10, mS_10, mR_11, mG_11, mS_11, mR_12, mG_12, mS_12, mR_13, mG_13, mS_13, mR_14, mG_14, mS_14, mR_15, mG_15, mS_15, mR_16, mG_16, mS_16, mR_17, mG_17, mS_17, mR_18, mG_18, mS_18, mR_19, mG_19, mS_19, mR_24, mG_24, mS_24, mR_26, mG_26, mS_26, mK_8, gS_1, gS_2, gA_1, gA_2, Option.bind_some, Option.bind_none, h62, p1, eq_self, if_true, if_false, ite_true, ite_false, bd_I, bd_V, bd_A, bd_L, re_I, re_V, Bool.true_and, Bool.and_true, reduceIte, reduceCtorEq, ↓reduceIte, Nat.reduceEqDiff]
          have hle : ¬ g.1 6 ≤ ni ls.length := by
            rcases h6 with h6 | ⟨q, w1, w2, w3⟩
            · rw [h6]; exact niNL (by omega) (by omega) (by omega)
            · rw [w1]; exact niNL (by omega) (by omega) (by simp only [List.length_cons] at w2; omega)
          rw [if_neg hle, ni_p1]; rfl
        · exact ((hF1.mono (Nat.zero_le _) (Nat.le_refl _)).trans (q6.mono (Nat.le_refl _) (Nat.le_succ _))).trans (p4.mono (Nat.zero_le _) (Nat.le_refl _))
/-- a request of the reference -/
theorem M_request (m : Nat) (h : Hs_t) (ls : List Ly_t) (n : Nat) (s : Sr_t) (g : Mg_t) (hR : RMl g ls) (hS : RSm g s) (hv : iv_O ls s) (hn0 : 1 ≤ n) (hn : n ≤ 120) (hL : ls.length ≤ 5) (h6 : g.1 6 = ni ls.length) : ∃ g', f_M_request m (ni n) (MH m g h) = re_Z (if (rq ls n s).1.isSome then 1 else 0) (MH m g' h) ∧ RMl g' (rq ls n s).2.1 ∧ RSm g' (rq ls n s).2.2 ∧ (∀ bs, (rq ls n s).1 = some bs → AN g' bs) ∧ FR 0 ls.length g g' := by
  have hK := M_req_b12 m h ls n (fu_N - ls.length - 2) s g hR hS hv hn0 hn hL (Or.inr ⟨ls.length, h6, Nat.le_refl _, hL⟩)
  rw [show fu_N - ls.length - 2 + ls.length + 2 = fu_N by simp only [fu_N]; omega] at hK
  rw [f_M_request]
  simp only [mI_0, mP_0, mI_4, mP_4, mI_5, mP_5, mI_6, mP_6, mI_20, mP_20, mI_21, mP_21, mI_22, mP_22, mI_23, mP_23, mI_25, mP_25, mI_27, mP_27, mR_1, mG_1, mS_1, mR_2, mG_2, mS_2, mR_3, mG_3, mS_3, mR_7, mG_7, mS_7, mR_8, mG_8, mS_8, mR_9, mG_9, mS_9, mR_10, mG_10, mS_10, mR_11, mG_11, mS_11, mR_12, mG_12, mS_12, mR_13, mG_13, mS_13, mR_14, mG_14, mS_14, mR_15, mG_15, mS_15, mR_16, mG_16, mS_16, mR_17, mG_17, mS_17, mR_18, mG_18, mS_18, mR_19, mG_19, mS_19, mR_24, mG_24, mS_24, mR_26, mG_26, mS_26, mK_8, gS_1, gS_2, gA_1, gA_2, Option.bind_some, Option.bind_none, h6]
  generalize rq ls n s = r at *
  match r, hK with
  | (none, ls1, s1), hK =>
    obtain ⟨g', q1, q2, q3, q4⟩ := hK
    exact ⟨g', q1, q2, q3, fun bs hb => (by cases hb), q4⟩
  | (some bs, ls1, s1), hK =>
    obtain ⟨g', k, q1, q2, q3, q4, q5, q6⟩ := hK
    refine ⟨g', ?_, q3, q4, fun cs hb => (by cases hb; exact q5), q6⟩
    rw [q1, show k = (k - 1) + 1 by simp only [fu_N] at q2; omega, f_M_request_b148]
    simp only [mI_0, mP_0, mI_4, mP_4, mI_5, mP_5, mI_6, mP_6, mI_20, mP_20, mI_21, mP_21, mI_22, mP_22, mI_23, mP_23, mI_25, mP_25, mI_27, mP_27, mR_1, mG_1, mS_1, mR_2, mG_2, mS_2, mR_3, mG_3, mS_3, mR_7, mG_7, mS_7, mR_8, mG_8, mS_8, mR_9, mG_9, mS_9, mR_10, mG_10, mS_10, mR_11, mG_11, mS_11, mR_12, mG_12, mS_12, mR_13, mG_13, mS_13, mR_14, mG_14, mS_14, mR_15, mG_15, mS_15, mR_16, mG_16, mS_16, mR_17, mG_17, mS_17, mR_18, mG_18, mS_18, mR_19, mG_19, mS_19, mR_24, mG_24, mS_24, mR_26, mG_26, mS_26, mK_8, gS_1, gS_2, gA_1, gA_2, Option.bind_some, Option.bind_none]
    rw [q6.1 6 (by omega) (by omega), h6, if_pos (niL (by omega) (by omega) (Nat.le_refl _))]
    rfl
