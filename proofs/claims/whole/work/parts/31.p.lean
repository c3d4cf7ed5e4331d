/-! The reference's small methods. -/
theorem ni_64 (l : Nat) : (64 : Int32) * ni l = ni (64 * l) := by
  show Int32.ofNat 64 * Int32.ofNat l = Int32.ofNat (64 * l)
  rw [Int32.ofNat_mul]
theorem niL {a b : Nat} (ha : a < 2147483648) (hb : b < 2147483648) (h : a ≤ b) : ni a ≤ ni b := by rw [ni_le ha hb]; exact h
theorem niNL {a b : Nat} (ha : a < 2147483648) (hb : b < 2147483648) (h : b < a) : ¬ ni a ≤ ni b := by rw [ni_le ha hb]; omega
theorem niT {a b : Nat} (ha : a < 2147483648) (hb : b < 2147483648) (h : a < b) : ni a < ni b := by rw [ni_lt ha hb]; exact h
theorem niNT {a b : Nat} (ha : a < 2147483648) (hb : b < 2147483648) (h : b ≤ a) : ¬ ni a < ni b := by rw [ni_lt ha hb]; omega
theorem niNE {a b : Nat} (ha : a < 2147483648) (hb : b < 2147483648) (h : a ≠ b) : ¬ ni a = ni b := by rw [ni_eq ha hb]; exact h
theorem ni_p1 (a : Nat) : ni a + 1 = ni (a + 1) := ni_add a 1
theorem M_toGive (m : Nat) (g : Mg_t) (h : Hs_t) (l : Nat) (hl : l < 5) : f_M_toGive m (ni l) (MH m g h) = re_I (g.2 14 l - g.2 15 l) (MH m g h) := by
  have h1 : in_R (ni l) 5 = true := ni_in_t (by omega) hl
  have h2 : (ni l).toNatClampNeg = l := ni_nat (by omega)
  simp only [f_M_toGive, mI_0, mP_0, mI_4, mP_4, mI_5, mP_5, mI_6, mP_6, mI_20, mP_20, mI_21, mP_21, mI_22, mP_22, mI_23, mP_23, mI_25, mP_25, mI_27, mP_27, mR_1, mG_1, mS_1, mR_2, mG_2, mS_2, mR_3, mG_3, mS_3, mR_7, mG_7, mS_7, mR_8, mG_8, mS_8, mR_9, mG_9, mS_9, mR_10, mG_10, mS_10, mR_11, mG_11, mS_11, mR_12, mG_12, mS_12, mR_13, mG_13, mS_13, mR_14, mG_14, mS_14, mR_15, mG_15, mS_15, mR_16, mG_16, mS_16, mR_17, mG_17, mS_17, mR_18, mG_18, mS_18, mR_19, mG_19, mS_19, mR_24, mG_24, mS_24, mR_26, mG_26, mS_26, mK_8, gS_1, gS_2, gA_1, gA_2, Option.bind_some, Option.bind_none, h1, h2, eq_self, if_true, if_false, ite_true, ite_false, bd_I, bd_V, bd_A, bd_L, re_I, re_V, Bool.true_and, Bool.and_true, reduceIte, reduceCtorEq, ↓reduceIte, Nat.reduceEqDiff]
theorem cpy_0 (f g : Nat → Int32) (sp dp : Nat) : va_cpy f g sp dp 0 = g := by
  funext k; simp only [va_cpy]; rw [if_neg (by omega)]
theorem cpy_fwd (f : Nat → Int32) (sp dp n : Nat) (h : dp ≤ sp) : va_cpy (upd f dp (f sp)) (upd f dp (f sp)) (sp + 1) (dp + 1) n = va_cpy f f sp dp (n + 1) := by
  funext k; simp only [va_cpy, upd]
  by_cases h1 : dp + 1 ≤ k ∧ k < dp + 1 + n
  · rw [if_pos h1, if_neg (by omega), if_pos (by omega)]; congr 1; omega
  · rw [if_neg h1]
    by_cases h2 : k = dp
    · rw [if_pos h2, if_pos (by omega)]; congr 1; omega
    · rw [if_neg h2, if_neg (by omega)]
theorem cpy_step (f g : Nat → Int32) (sp dp n : Nat) : va_cpy f (upd g dp (f sp)) (sp + 1) (dp + 1) n = va_cpy f g sp dp (n + 1) := by
  funext k; simp only [va_cpy, upd]
  by_cases h1 : dp + 1 ≤ k ∧ k < dp + 1 + n
  · rw [if_pos h1, if_pos (by omega)]; congr 1; omega
  · rw [if_neg h1]
    by_cases h2 : k = dp
    · rw [if_pos h2, if_pos (by omega)]; congr 1; omega
    · rw [if_neg h2, if_neg (by omega)]
theorem gA_gA (g : Mg_t) (k : Nat) (f f' : Nat → Int32) : gA (gA g k f) k f' = gA g k f' := by
  simp only [gA, Prod.mk.injEq, true_and]
  funext j; simp only [va_up]; split <;> rfl
theorem gA_self (g : Mg_t) (k : Nat) : gA g k (g.2 k) = g := by
  obtain ⟨a, b⟩ := g
  simp only [gA, Prod.mk.injEq, true_and]
  funext j; simp only [va_up]; split
  · rename_i h; rw [h]
  · rfl
theorem M_forget_b19 (m : Nat) (h : Hs_t) (l n hv : Nat) (hl : l < 5) (hn : n + hv ≤ 64) (d : Nat) : ∀ (i k : Nat) (g : Mg_t), g.2 14 l = ni hv → i + d = hv → f_M_forget_b19 (k + d + 1) m (ni l) (ni n) (ni (64 * l + i)) (MH m g h) = re_V (MH m (gA g 13 (va_cpy (g.2 13) (g.2 13) (64 * l + n + i) (64 * l + i) d)) h) := by
  have h1 : in_R (ni l) 5 = true := ni_in_t (by omega) hl
  have h2 : (ni l).toNatClampNeg = l := ni_nat (by omega)
  induction d with
  | zero =>
    intro i k g hg hi
    rw [f_M_forget_b19]
    simp only [mI_0, mP_0, mI_4, mP_4, mI_5, mP_5, mI_6, mP_6, mI_20, mP_20, mI_21, mP_21, mI_22, mP_22, mI_23, mP_23, mI_25, mP_25, mI_27, mP_27, mR_1, mG_1, mS_1, mR_2, mG_2, mS_2, mR_3, mG_3, mS_3, mR_7, mG_7, mS_7, mR_8, mG_8, mS_8, mR_9, mG_9, mS_9, mR_10, mG_10, mS_10, mR_11, mG_11, mS_11, mR_12, mG_12, mS_12, mR_13, mG_13, mS_13, mR_14, mG_14, mS_14, mR_15, mG_15, mS_15, mR_16, mG_16, mS_16, mR_17, mG_17, mS_17, mR_18, mG_18, mS_18, mR_19, mG_19, mS_19, mR_24, mG_24, mS_24, mR_26, mG_26, mS_26, mK_8, gS_1, gS_2, gA_1, gA_2, Option.bind_some, Option.bind_none, h1, h2, eq_self, if_true, if_false, ite_true, ite_false, bd_I, bd_V, bd_A, bd_L, re_I, re_V, Bool.true_and, Bool.and_true, reduceIte, reduceCtorEq, ↓reduceIte, Nat.reduceEqDiff, hg, ni_64, ni_add]
    rw [if_pos (niL (by omega) (by omega) (by omega)), cpy_0, gA_self]
  | succ d ih =>
    intro i k g hg hi
    have h3 : in_R (ni (64 * l + i + n)) 320 = true := ni_in_t (by omega) (by omega)
    have h4 : in_R (ni (64 * l + i)) 320 = true := ni_in_t (by omega) (by omega)
    have h5 : (ni (64 * l + i + n)).toNatClampNeg = 64 * l + i + n := ni_nat (by omega)
    have h6 : (ni (64 * l + i)).toNatClampNeg = 64 * l + i := ni_nat (by omega)
    rw [show k + (d + 1) + 1 = (k + d + 1) + 1 by omega]
    rw [f_M_forget_b19]
    simp only [mI_0, mP_0, mI_4, mP_4, mI_5, mP_5, mI_6, mP_6, mI_20, mP_20, mI_21, mP_21, mI_22, mP_22, mI_23, mP_23, mI_25, mP_25, mI_27, mP_27, mR_1, mG_1, mS_1, mR_2, mG_2, mS_2, mR_3, mG_3, mS_3, mR_7, mG_7, mS_7, mR_8, mG_8, mS_8, mR_9, mG_9, mS_9, mR_10, mG_10, mS_10, mR_11, mG_11, mS_11, mR_12, mG_12, mS_12, mR_13, mG_13, mS_13, mR_14, mG_14, mS_14, mR_15, mG_15, mS_15, mR_16, mG_16, mS_16, mR_17, mG_17, mS_17, mR_18, mG_18, mS_18, mR_19, mG_19, mS_19, mR_24, mG_24, mS_24, mR_26, mG_26, mS_26, mK_8, gS_1, gS_2, gA_1, gA_2, Option.bind_some, Option.bind_none, h1, h2, eq_self, if_true, if_false, ite_true, ite_false, bd_I, bd_V, bd_A, bd_L, re_I, re_V, Bool.true_and, Bool.and_true, reduceIte, reduceCtorEq, ↓reduceIte, Nat.reduceEqDiff, hg, ni_64, ni_add, h3, h4, h5, h6]
    rw [if_neg (niNL (by omega) (by omega) (by omega)), ni_p1]
    rw [show 64 * l + i + 1 = 64 * l + (i + 1) by omega]
    have hg2 : (gA g 13 (upd (g.2 13) (64 * l + i) (g.2 13 (64 * l + i + n)))).2 14 l = ni hv := by simp only [gA_2]; exact hg
    rw [ih (i + 1) k _ hg2 (by omega)]
    simp only [gA_gA, gA_2, if_true]
    rw [show 64 * l + n + (i + 1) = (64 * l + i + n) + 1 by omega, show 64 * l + (i + 1) = (64 * l + i) + 1 by omega, cpy_fwd _ _ _ _ (by omega), show 64 * l + n + i = 64 * l + i + n by omega]
    rfl
theorem M_forget (m : Nat) (h : Hs_t) (l n hv : Nat) (hl : l < 5) (hn : n + hv ≤ 64) (g : Mg_t) (hg : g.2 14 l = ni (n + hv)) : f_M_forget m (ni l) (ni n) (MH m g h) = re_V (MH m (gA (gA g 14 (upd (g.2 14) l (ni hv))) 13 (va_cpy (g.2 13) (g.2 13) (64 * l + n) (64 * l) hv)) h) := by
  have h1 : in_R (ni l) 5 = true := ni_in_t (by omega) hl
  have h2 : (ni l).toNatClampNeg = l := ni_nat (by omega)
  simp only [f_M_forget, mI_0, mP_0, mI_4, mP_4, mI_5, mP_5, mI_6, mP_6, mI_20, mP_20, mI_21, mP_21, mI_22, mP_22, mI_23, mP_23, mI_25, mP_25, mI_27, mP_27, mR_1, mG_1, mS_1, mR_2, mG_2, mS_2, mR_3, mG_3, mS_3, mR_7, mG_7, mS_7, mR_8, mG_8, mS_8, mR_9, mG_9, mS_9, mR_10, mG_10, mS_10, mR_11, mG_11, mS_11, mR_12, mG_12, mS_12, mR_13, mG_13, mS_13, mR_14, mG_14, mS_14, mR_15, mG_15, mS_15, mR_16, mG_16, mS_16, mR_17, mG_17, mS_17, mR_18, mG_18, mS_18, mR_19, mG_19, mS_19, mR_24, mG_24, mS_24, mR_26, mG_26, mS_26, mK_8, gS_1, gS_2, gA_1, gA_2, Option.bind_some, Option.bind_none, h1, h2, eq_self, if_true, if_false, ite_true, ite_false, bd_I, bd_V, bd_A, bd_L, re_I, re_V, Bool.true_and, Bool.and_true, reduceIte, reduceCtorEq, ↓reduceIte, Nat.reduceEqDiff, hg, ni_64, ni_sub2]
  have := M_forget_b19 m h l n hv hl hn hv 0 (fu_N - hv - 1) (gA g 14 (upd (g.2 14) l (ni hv))) (by simp [gA_2, upd]) (by omega)
  rw [show fu_N - hv - 1 + hv + 1 = fu_N by simp only [fu_N]; omega] at this
  exact this
theorem M_give_b24 (m : Nat) (h : Hs_t) (l gv c : Nat) (hl : l < 5) (hc : gv + c ≤ 64) (d : Nat) : ∀ (i k : Nat) (g : Mg_t), g.1 20 = ni c → g.2 15 l = ni gv → i + d = c → f_M_give_b24 (k + d + 1) m (ni l) (ni i) (MH m g h) = f_M_give_b24 (k + 1) m (ni l) (ni c) (MH m (gA g 19 (va_cpy (g.2 13) (g.2 19) (64 * l + gv + i) i d)) h) := by
  have h1 : in_R (ni l) 5 = true := ni_in_t (by omega) hl
  have h2 : (ni l).toNatClampNeg = l := ni_nat (by omega)
  induction d with
  | zero =>
    intro i k g hg hg2 hi
    rw [cpy_0, gA_self, show i = c by omega]
  | succ d ih =>
    intro i k g hg hg2 hi
    have h3 : in_R (ni (64 * l + gv + i)) 320 = true := ni_in_t (by omega) (by omega)
    have h4 : in_R (ni i) 120 = true := ni_in_t (by omega) (by omega)
    have h5 : (ni (64 * l + gv + i)).toNatClampNeg = 64 * l + gv + i := ni_nat (by omega)
    have h6 : (ni i).toNatClampNeg = i := ni_nat (by omega)
    rw [show k + (d + 1) + 1 = (k + d + 1) + 1 by omega]
    rw [f_M_give_b24]
    simp only [mI_0, mP_0, mI_4, mP_4, mI_5, mP_5, mI_6, mP_6, mI_20, mP_20, mI_21, mP_21, mI_22, mP_22, mI_23, mP_23, mI_25, mP_25, mI_27, mP_27, mR_1, mG_1, mS_1, mR_2, mG_2, mS_2, mR_3, mG_3, mS_3, mR_7, mG_7, mS_7, mR_8, mG_8, mS_8, mR_9, mG_9, mS_9, mR_10, mG_10, mS_10, mR_11, mG_11, mS_11, mR_12, mG_12, mS_12, mR_13, mG_13, mS_13, mR_14, mG_14, mS_14, mR_15, mG_15, mS_15, mR_16, mG_16, mS_16, mR_17, mG_17, mS_17, mR_18, mG_18, mS_18, mR_19, mG_19, mS_19, mR_24, mG_24, mS_24, mR_26, mG_26, mS_26, mK_8, gS_1, gS_2, gA_1, gA_2, Option.bind_some, Option.bind_none, h1, h2, eq_self, if_true, if_false, ite_true, ite_false, bd_I, bd_V, bd_A, bd_L, re_I, re_V, Bool.true_and, Bool.and_true, reduceIte, reduceCtorEq, ↓reduceIte, Nat.reduceEqDiff, hg, hg2, ni_64, ni_add, h3, h4, h5, h6]
    rw [if_neg (niNL (by omega) (by omega) (by omega)), ni_p1]
    rw [ih (i + 1) k _ (by simp only [gA_1]; exact hg) (by simp only [gA_2]; exact hg2) (by omega)]
    simp only [gA_gA, gA_2, eq_self, if_true, if_false, ite_true, ite_false, bd_I, bd_V, bd_A, bd_L, re_I, re_V, Bool.true_and, Bool.and_true, reduceIte, reduceCtorEq, ↓reduceIte, Nat.reduceEqDiff]
    rw [show 64 * l + gv + (i + 1) = (64 * l + gv + i) + 1 by omega]
    rw [cpy_step]
/-- the reference's rows hold the layer L at l -/
def RLm (g : Mg_t) (l : Nat) : Ly_t → Prop
  | .inl (rm, kp, tg, mq) => g.2 7 l = 1 ∧ g.2 8 l = ni rm ∧ g.2 14 l = ni (kp.length + tg.length) ∧ g.2 15 l = ni kp.length ∧ sl (g.2 13) (64 * l) kp.length = kp ∧ sl (g.2 13) (64 * l + kp.length) tg.length = tg ∧ (match mq with | none => g.2 16 l = 0 | some b => g.2 16 l = 1 ∧ g.2 17 l = ni b)
  | .inr (.inl (rm, st)) => g.2 7 l = 2 ∧ g.2 8 l = ni rm ∧ g.2 14 l = ni st.length ∧ sl (g.2 13) (64 * l) st.length = st.reverse
  | .inr (.inr (.inl (lf, lm))) => g.2 7 l = 3 ∧ g.2 9 l = ni lf ∧ g.2 10 l = ni lm ∧ ((g.2 11 l = 0 ∨ g.2 11 l = 1) ∧ (g.2 12 l = 0 ∨ g.2 12 l = 1))
  | .inr (.inr (.inr (.inl (key, cd, cm)))) => g.2 7 l = 4 ∧ g.2 8 l = key ∧ g.2 9 l = cd ∧ g.2 10 l = cm ∧ ((g.2 11 l = 0 ∨ g.2 11 l = 1) ∧ (g.2 12 l = 0 ∨ g.2 12 l = 1))
  | .inr (.inr (.inr (.inr (e, em, cr, crm)))) => g.2 7 l = 5 ∧ g.2 9 l = e ∧ g.2 10 l = em ∧ g.2 11 l = cr ∧ g.2 12 l = crm
/-- what a request leaves of the reference's rows, but for the layers lo .. hi-1 -/
def FR (lo hi : Nat) (g g' : Mg_t) : Prop := (∀ k, k ≠ 20 → k ≠ 5 → g'.1 k = g.1 k) ∧ (∀ k, k ∈ [1, 2, 3, 7, 8, 10, 12, 17, 24, 26] → g'.2 k = g.2 k) ∧ (∀ k, k ∈ [9, 11, 14, 15, 16, 18] → ∀ i, (i < lo ∨ hi ≤ i) → g'.2 k i = g.2 k i) ∧ ∀ j, (j < 64 * lo ∨ 64 * hi ≤ j) → g'.2 13 j = g.2 13 j
theorem FR.refl (lo hi : Nat) (g : Mg_t) : FR lo hi g g := ⟨fun _ _ _ => rfl, fun _ _ => rfl, fun _ _ _ _ => rfl, fun _ _ => rfl⟩
theorem FR.trans {lo hi : Nat} {a b c : Mg_t} (h1 : FR lo hi a b) (h2 : FR lo hi b c) : FR lo hi a c := ⟨fun k p q => (h2.1 k p q).trans (h1.1 k p q), fun k p => (h2.2.1 k p).trans (h1.2.1 k p), fun k p i q => (h2.2.2.1 k p i q).trans (h1.2.2.1 k p i q), fun j q => (h2.2.2.2 j q).trans (h1.2.2.2 j q)⟩
theorem FR.mono {lo hi lo' hi' : Nat} {a b : Mg_t} (h1 : FR lo hi a b) (p : lo' ≤ lo) (q : hi ≤ hi') : FR lo' hi' a b := ⟨h1.1, h1.2.1, fun k p i q => h1.2.2.1 k p i (by omega), fun j q => h1.2.2.2 j (by omega)⟩
theorem RLm.frame {g g' : Mg_t} {l lo hi : Nat} {L : Ly_t} (h : RLm g l L) (hO : ly_O L) (hF : FR lo hi g g') (hl : l < lo ∨ hi ≤ l) : RLm g' l L := by
  obtain ⟨f1, f2, f3, f4⟩ := hF
  have e7 := f2 7 (by simp); have e8 := f2 8 (by simp); have e10 := f2 10 (by simp); have e12 := f2 12 (by simp); have e17 := f2 17 (by simp)
  have e9 := f3 9 (by simp) l hl; have e11 := f3 11 (by simp) l hl; have e14 := f3 14 (by simp) l hl; have e15 := f3 15 (by simp) l hl; have e16 := f3 16 (by simp) l hl
  match L, h, hO with
  | .inl (rm, kp, tg, mq), h, hO =>
    obtain ⟨a1, a2, a3, a4, a5, a6, a7⟩ := h
    have h5 := hO.2.2.2.2.1
    have h6 := hO.2.1
    refine ⟨by rw [e7]; exact a1, by rw [e8]; exact a2, by rw [e14]; exact a3, by rw [e15]; exact a4, ?_, ?_, ?_⟩
    · refine (sl_congr fun k hk => ?_).trans a5
      rw [f4 _ (by omega)]
    · refine (sl_congr fun k hk => ?_).trans a6
      rw [f4 _ (by omega)]
    · rw [e16, e17]; exact a7
  | .inr (.inl (rm, st)), h, hO =>
    obtain ⟨a1, a2, a3, a4⟩ := h
    have h5 := hO.2.2.2
    have h6 := hO.2.1
    refine ⟨by rw [e7]; exact a1, by rw [e8]; exact a2, by rw [e14]; exact a3, ?_⟩
    refine (sl_congr fun k hk => ?_).trans a4
    rw [f4 _ (by omega)]
  | .inr (.inr (.inl (lf, lm))), h, hO => simp only [RLm, e7, e8, e9, e10, e11, e12]; exact h
  | .inr (.inr (.inr (.inl (key, cd, cm)))), h, hO => simp only [RLm, e7, e8, e9, e10, e11, e12]; exact h
  | .inr (.inr (.inr (.inr (e, em, cr, crm)))), h, hO => simp only [RLm, e7, e8, e9, e10, e11, e12]; exact h
/-- what a method leaves: the answer's row holds bs -/
def AN (g : Mg_t) (bs : List Int32) : Prop := g.1 20 = ni bs.length ∧ sl (g.2 19) 0 bs.length = bs
theorem M_give (m : Nat) (h : Hs_t) (l n : Nat) (hl : l < 5) (hn : n < 1000) (g : Mg_t) (rm : Nat) (kp tg : List Int32) (mq : Option Nat) (hO : ly_O (ly_B rm kp tg mq)) (hg : RLm g l (ly_B rm kp tg mq)) : ∃ g', f_M_give m (ni l) (ni n) (MH m g h) = re_V (MH m g' h) ∧ RLm g' l (gv_B rm kp tg mq n) ∧ AN g' (tg.take n) ∧ FR l (l + 1) g g' ∧ g'.1 5 = g.1 5 := by
  have h1 : in_R (ni l) 5 = true := ni_in_t (by omega) hl
  have h2 : (ni l).toNatClampNeg = l := ni_nat (by omega)
  obtain ⟨a1, a2, a3, a4, a5, a6, a7⟩ := hg
  obtain ⟨o1, o2, o3, o4, o5, o6⟩ := hO
  have e1 : f_M_give m (ni l) (ni n) (MH m g h) = f_M_give_b19 m (ni l) (ni (tg.take n).length) m (MH m g h) := by
    rw [f_M_give]
    simp only [mI_0, mP_0, mI_4, mP_4, mI_5, mP_5, mI_6, mP_6, mI_20, mP_20, mI_21, mP_21, mI_22, mP_22, mI_23, mP_23, mI_25, mP_25, mI_27, mP_27, mR_1, mG_1, mS_1, mR_2, mG_2, mS_2, mR_3, mG_3, mS_3, mR_7, mG_7, mS_7, mR_8, mG_8, mS_8, mR_9, mG_9, mS_9, mR_10, mG_10, mS_10, mR_11, mG_11, mS_11, mR_12, mG_12, mS_12, mR_13, mG_13, mS_13, mR_14, mG_14, mS_14, mR_15, mG_15, mS_15, mR_16, mG_16, mS_16, mR_17, mG_17, mS_17, mR_18, mG_18, mS_18, mR_19, mG_19, mS_19, mR_24, mG_24, mS_24, mR_26, mG_26, mS_26, mK_8, gS_1, gS_2, gA_1, gA_2, Option.bind_some, Option.bind_none, M_toGive m _ h l hl, eq_self, if_true, if_false, ite_true, ite_false, bd_I, bd_V, bd_A, bd_L, re_I, re_V, Bool.true_and, Bool.and_true, reduceIte, reduceCtorEq, ↓reduceIte, Nat.reduceEqDiff, a3, a4, ni_sub2]
    by_cases hc : tg.length ≤ n
    · rw [if_pos (niL (by omega) (by omega) (by omega))]; rw [List.take_of_length_le hc]
    · rw [if_neg (niNL (by omega) (by omega) (by omega)), List.length_take, show min n tg.length = n by omega]
  have hc : (tg.take n).length ≤ tg.length := by rw [List.length_take]; omega
  have e2 : f_M_give m (ni l) (ni n) (MH m g h) = f_M_give_b24 (fu_N - (tg.take n).length) m (ni l) (ni (tg.take n).length) (MH m (gA (gS g 20 (ni (tg.take n).length)) 19 (va_cpy (g.2 13) (g.2 19) (64 * l + kp.length) 0 (tg.take n).length)) h) := by
    rw [e1, f_M_give_b19]
    simp only [mI_0, mP_0, mI_4, mP_4, mI_5, mP_5, mI_6, mP_6, mI_20, mP_20, mI_21, mP_21, mI_22, mP_22, mI_23, mP_23, mI_25, mP_25, mI_27, mP_27, mR_1, mG_1, mS_1, mR_2, mG_2, mS_2, mR_3, mG_3, mS_3, mR_7, mG_7, mS_7, mR_8, mG_8, mS_8, mR_9, mG_9, mS_9, mR_10, mG_10, mS_10, mR_11, mG_11, mS_11, mR_12, mG_12, mS_12, mR_13, mG_13, mS_13, mR_14, mG_14, mS_14, mR_15, mG_15, mS_15, mR_16, mG_16, mS_16, mR_17, mG_17, mS_17, mR_18, mG_18, mS_18, mR_19, mG_19, mS_19, mR_24, mG_24, mS_24, mR_26, mG_26, mS_26, mK_8, gS_1, gS_2, gA_1, gA_2, Option.bind_some, Option.bind_none]
    have := M_give_b24 m h l kp.length (tg.take n).length hl (by omega) (tg.take n).length 0 (fu_N - (tg.take n).length - 1) (gS g 20 (ni (tg.take n).length)) rfl a4 (by omega)
    rw [show fu_N - (tg.take n).length - 1 + (tg.take n).length + 1 = fu_N by simp only [fu_N]; omega, show fu_N - (tg.take n).length - 1 + 1 = fu_N - (tg.take n).length by simp only [fu_N]; omega] at this
    exact this
  rw [e2, show fu_N - (tg.take n).length = (fu_N - (tg.take n).length - 1) + 1 by simp only [fu_N]; omega, f_M_give_b24]
  generalize hcc : (tg.take n).length = c at *
  have htk : tg.take n = tg.take c := by
    rw [← hcc, List.length_take]
    by_cases hc : tg.length ≤ n
    · rw [List.take_of_length_le hc, List.take_of_length_le (by omega)]
    · rw [show min n tg.length = n by omega]
  have hdr : tg.drop n = tg.drop c := by
    rw [← hcc, List.length_take]
    by_cases hc : tg.length ≤ n
    · rw [List.drop_of_length_le hc, List.drop_of_length_le (by omega)]
    · rw [show min n tg.length = n by omega]
  have hsl : sl (g.2 13) (64 * l + kp.length) c = tg.take n := by
    rw [htk]; conv => rhs; rw [← a6]
    rw [sl_take _ _ _ _ hc]
  have hsd : sl (g.2 13) (64 * l + kp.length + c) (tg.length - c) = tg.drop n := by
    rw [hdr]; conv => rhs; rw [← a6]
    rw [sl_drop _ _ _ _ hc]
  have hdl : (tg.drop n).length = tg.length - c := by rw [hdr]; simp
  simp only [mI_0, mP_0, mI_4, mP_4, mI_5, mP_5, mI_6, mP_6, mI_20, mP_20, mI_21, mP_21, mI_22, mP_22, mI_23, mP_23, mI_25, mP_25, mI_27, mP_27, mR_1, mG_1, mS_1, mR_2, mG_2, mS_2, mR_3, mG_3, mS_3, mR_7, mG_7, mS_7, mR_8, mG_8, mS_8, mR_9, mG_9, mS_9, mR_10, mG_10, mS_10, mR_11, mG_11, mS_11, mR_12, mG_12, mS_12, mR_13, mG_13, mS_13, mR_14, mG_14, mS_14, mR_15, mG_15, mS_15, mR_16, mG_16, mS_16, mR_17, mG_17, mS_17, mR_18, mG_18, mS_18, mR_19, mG_19, mS_19, mR_24, mG_24, mS_24, mR_26, mG_26, mS_26, mK_8, gS_1, gS_2, gA_1, gA_2, Option.bind_some, Option.bind_none, h1, h2, eq_self, if_true, if_false, ite_true, ite_false, bd_I, bd_V, bd_A, bd_L, re_I, re_V, Bool.true_and, Bool.and_true, reduceIte, reduceCtorEq, ↓reduceIte, Nat.reduceEqDiff, ni_add, a4]
  rw [if_pos (niL (by omega) (by omega) (by omega))]
  have hAN : ∀ g' : Mg_t, g'.1 20 = ni c → g'.2 19 = va_cpy (g.2 13) (g.2 19) (64 * l + kp.length) 0 c → AN g' (tg.take n) := by
    intro g' q1 q2
    refine ⟨by rw [q1, hcc], ?_⟩
    rw [q2, hcc, sl_cpy, hsl]
  -- the end: forget what is given
  have hF : ∀ g' : Mg_t, g'.2 14 l = ni (kp.length + tg.length) → g'.2 15 l = ni (kp.length + c) → g'.2 16 l = 0 → g'.2 7 = g.2 7 → g'.2 8 = g.2 8 → g'.2 13 = g.2 13 → g'.1 20 = ni c → g'.2 19 = va_cpy (g.2 13) (g.2 19) (64 * l + kp.length) 0 c → FR l (l + 1) g g' → g'.1 5 = g.1 5 → ∃ g'', f_M_give_b110 m (ni l) (MH m g' h) = re_V (MH m g'' h) ∧ RLm g'' l (ly_B rm [] (tg.drop n) none) ∧ AN g'' (tg.take n) ∧ FR l (l + 1) g g'' ∧ g''.1 5 = g.1 5 := by
    intro g' q14 q15 q16 q7 q8 q13 q20 q19 qF q5
    have hfo := M_forget m h l (kp.length + c) (tg.length - c) hl (by omega) g' (by rw [q14]; congr 1; omega)
    rw [f_M_give_b110]
    simp only [mI_0, mP_0, mI_4, mP_4, mI_5, mP_5, mI_6, mP_6, mI_20, mP_20, mI_21, mP_21, mI_22, mP_22, mI_23, mP_23, mI_25, mP_25, mI_27, mP_27, mR_1, mG_1, mS_1, mR_2, mG_2, mS_2, mR_3, mG_3, mS_3, mR_7, mG_7, mS_7, mR_8, mG_8, mS_8, mR_9, mG_9, mS_9, mR_10, mG_10, mS_10, mR_11, mG_11, mS_11, mR_12, mG_12, mS_12, mR_13, mG_13, mS_13, mR_14, mG_14, mS_14, mR_15, mG_15, mS_15, mR_16, mG_16, mS_16, mR_17, mG_17, mS_17, mR_18, mG_18, mS_18, mR_19, mG_19, mS_19, mR_24, mG_24, mS_24, mR_26, mG_26, mS_26, mK_8, gS_1, gS_2, gA_1, gA_2, Option.bind_some, Option.bind_none, h1, h2, eq_self, if_true, if_false, ite_true, ite_false, bd_I, bd_V, bd_A, bd_L, re_I, re_V, Bool.true_and, Bool.and_true, reduceIte, reduceCtorEq, ↓reduceIte, Nat.reduceEqDiff, q16, q15, hfo, f_M_give_b137]
    refine ⟨_, rfl, ?_, ?_, ?_, ?_⟩
    · simp only [RLm, gA_2, eq_self, if_true, if_false, ite_true, ite_false, bd_I, bd_V, bd_A, bd_L, re_I, re_V, Bool.true_and, Bool.and_true, reduceIte, reduceCtorEq, ↓reduceIte, Nat.reduceEqDiff]
      refine ⟨by rw [q7]; exact a1, by rw [q8]; exact a2, by rw [hdl]; simp [upd], by simp [upd, ni_0], rfl, ?_, q16⟩
      rw [hdl, List.length_nil, Nat.add_zero, sl_cpy, q13, ← Nat.add_assoc]; exact hsd
    · exact hAN _ (by simp only [gA_1]; exact q20) (by simp only [gA_2, eq_self, if_true, if_false, ite_true, ite_false, bd_I, bd_V, bd_A, bd_L, re_I, re_V, Bool.true_and, Bool.and_true, reduceIte, reduceCtorEq, ↓reduceIte, Nat.reduceEqDiff]; exact q19)
    · refine qF.trans ⟨fun k _ _ => rfl, fun k hk => ?_, fun k hk i hi => ?_, fun j hj => ?_⟩
      · simp only [List.mem_cons, List.not_mem_nil, or_false] at hk
        rcases hk with hk | hk | hk | hk | hk | hk | hk | hk | hk | hk <;> subst hk <;> rfl
      · simp only [List.mem_cons, List.not_mem_nil, or_false] at hk
        rcases hk with hk | hk | hk | hk | hk | hk <;> subst hk <;> simp only [gA_2, eq_self, if_true, if_false, ite_true, ite_false, bd_I, bd_V, bd_A, bd_L, re_I, re_V, Bool.true_and, Bool.and_true, reduceIte, reduceCtorEq, ↓reduceIte, Nat.reduceEqDiff, upd, if_neg (show ¬ i = l by omega)]
      · simp only [gA_2, eq_self, if_true, if_false, ite_true, ite_false, bd_I, bd_V, bd_A, bd_L, re_I, re_V, Bool.true_and, Bool.and_true, reduceIte, reduceCtorEq, ↓reduceIte, Nat.reduceEqDiff]
        exact cpy_out _ _ _ _ _ _ (by omega)
    · exact q5
  have hFR0 : ∀ (f15 f16 f19 : Nat → Int32), (∀ i, i ≠ l → f15 i = g.2 15 i) → (∀ i, i ≠ l → f16 i = g.2 16 i) → FR l (l + 1) g (gA (gA (gA (gS g 20 (ni c)) 19 f19) 15 f15) 16 f16) := by
    intro f15 f16 f19 w15 w16
    refine ⟨fun k k1 _ => by simp only [gA_1, gS_1, if_neg k1], fun k hk => ?_, fun k hk i hi => ?_, fun j hj => rfl⟩
    · simp only [List.mem_cons, List.not_mem_nil, or_false] at hk
      rcases hk with hk | hk | hk | hk | hk | hk | hk | hk | hk | hk <;> subst hk <;> rfl
    · simp only [List.mem_cons, List.not_mem_nil, or_false] at hk
      rcases hk with hk | hk | hk | hk | hk | hk <;> subst hk <;> simp only [gA_2, gS_2, eq_self, if_true, if_false, ite_true, ite_false, bd_I, bd_V, bd_A, bd_L, re_I, re_V, Bool.true_and, Bool.and_true, reduceIte, reduceCtorEq, ↓reduceIte, Nat.reduceEqDiff]
      · exact w15 i (by omega)
      · exact w16 i (by omega)
  cases mq with
  | none =>
    simp only [a7, eq_self, if_true, if_false, ite_true, ite_false, bd_I, bd_V, bd_A, bd_L, re_I, re_V, Bool.true_and, Bool.and_true, reduceIte, reduceCtorEq, ↓reduceIte, Nat.reduceEqDiff]
    have ho : kp = [] := o6
    have key := hF (gA (gA (gS g 20 (ni c)) 19 (va_cpy (g.2 13) (g.2 19) (64 * l + kp.length) 0 c)) 15 (upd (g.2 15) l (ni (kp.length + c)))) a3 (by simp [gA_2, upd]) a7 rfl rfl rfl rfl rfl (by
      have := hFR0 (upd (g.2 15) l (ni (kp.length + c))) (g.2 16) (va_cpy (g.2 13) (g.2 19) (64 * l + kp.length) 0 c) (fun i hi => by simp [upd, hi]) (fun i hi => rfl)
      rw [show g.2 16 = (gA (gA (gS g 20 (ni c)) 19 (va_cpy (g.2 13) (g.2 19) (64 * l + kp.length) 0 c)) 15 (upd (g.2 15) l (ni (kp.length + c)))).2 16 from rfl, gA_self] at this
      exact this) rfl
    exact key
  | some b =>
    obtain ⟨a7, a8⟩ := a7
    obtain ⟨o6, o7⟩ := o6
    simp only [a7, a8, eq_self, if_true, if_false, ite_true, ite_false, bd_I, bd_V, bd_A, bd_L, re_I, re_V, Bool.true_and, Bool.and_true, reduceIte, reduceCtorEq, ↓reduceIte, Nat.reduceEqDiff, upd, show ((1 : Int32) = 0) = False by simp]
    simp only [gv_B, List.length_append, hcc]
    by_cases hb : kp.length + c ≤ b
    · rw [if_pos (niL (by omega) (by omega) (by omega)), if_neg (by omega)]
      rw [f_M_give_b110]
      simp only [mI_0, mP_0, mI_4, mP_4, mI_5, mP_5, mI_6, mP_6, mI_20, mP_20, mI_21, mP_21, mI_22, mP_22, mI_23, mP_23, mI_25, mP_25, mI_27, mP_27, mR_1, mG_1, mS_1, mR_2, mG_2, mS_2, mR_3, mG_3, mS_3, mR_7, mG_7, mS_7, mR_8, mG_8, mS_8, mR_9, mG_9, mS_9, mR_10, mG_10, mS_10, mR_11, mG_11, mS_11, mR_12, mG_12, mS_12, mR_13, mG_13, mS_13, mR_14, mG_14, mS_14, mR_15, mG_15, mS_15, mR_16, mG_16, mS_16, mR_17, mG_17, mS_17, mR_18, mG_18, mS_18, mR_19, mG_19, mS_19, mR_24, mG_24, mS_24, mR_26, mG_26, mS_26, mK_8, gS_1, gS_2, gA_1, gA_2, Option.bind_some, Option.bind_none, h1, h2, eq_self, if_true, if_false, ite_true, ite_false, bd_I, bd_V, bd_A, bd_L, re_I, re_V, Bool.true_and, Bool.and_true, reduceIte, reduceCtorEq, ↓reduceIte, Nat.reduceEqDiff, a7, show ((1 : Int32) = 0) = False by simp, f_M_give_b137]
      refine ⟨_, rfl, ?_, hAN _ rfl rfl, ?_, rfl⟩
      · simp only [RLm, gA_2, gS_2, eq_self, if_true, if_false, ite_true, ite_false, bd_I, bd_V, bd_A, bd_L, re_I, re_V, Bool.true_and, Bool.and_true, reduceIte, reduceCtorEq, ↓reduceIte, Nat.reduceEqDiff, List.length_append, hcc]
        refine ⟨a1, a2, ?_, by simp [upd], ?_, ?_, a7, a8⟩
        · rw [a3, hdl]; congr 1; omega
        · rw [sl_app, a5, hsl]
        · rw [hdl, ← Nat.add_assoc]; exact hsd
      · have := hFR0 (upd (g.2 15) l (ni (kp.length + c))) (g.2 16) (va_cpy (g.2 13) (g.2 19) (64 * l + kp.length) 0 c) (fun i hi => by simp [upd, hi]) (fun i hi => rfl)
        rw [show g.2 16 = (gA (gA (gS g 20 (ni c)) 19 (va_cpy (g.2 13) (g.2 19) (64 * l + kp.length) 0 c)) 15 (upd (g.2 15) l (ni (kp.length + c)))).2 16 from rfl, gA_self] at this
        exact this
    · rw [if_neg (niNL (by omega) (by omega) (by omega)), if_pos (show b < kp.length + c by omega)]
      simp only [show is_Z 0 = true by decide, eq_self, if_true, if_false, ite_true, ite_false, bd_I, bd_V, bd_A, bd_L, re_I, re_V, Bool.true_and, Bool.and_true, reduceIte, reduceCtorEq, ↓reduceIte, Nat.reduceEqDiff]
      exact hF _ a3 (by simp [gA_2, upd]) (by simp [gA_2, upd]) rfl rfl rfl rfl rfl (hFR0 _ _ _ (fun i hi => by simp [upd, hi]) (fun i hi => by simp [upd, hi, gA_2, gS_2])) rfl
