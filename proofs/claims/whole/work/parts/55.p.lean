/-! skip and line. -/
def sk : Nat → Nat → Nat → List Ly_t → Sr_t → Int32 → Option Nat × List Ly_t × Sr_t × Int32
  | 0, _, came, ls, s, lv => (some came, ls, s, lv)
  | k + 1, n, came, ls, s, lv => if n ≤ came then (some came, ls, s, lv) else match rd ls s lv (n - came) with
    | ((none, ls1, s1), lv1) => (if came = 0 then none else some came, ls1, s1, lv1)
    | ((some [], ls1, s1), lv1) => (some came, ls1, s1, lv1)
    | ((some (x :: bs), ls1, s1), lv1) => sk k n (came + (x :: bs).length) ls1 s1 lv1
theorem sk_iv (k : Nat) : ∀ (n came : Nat) (ls : List Ly_t) (s : Sr_t) (lv : Int32), iv_O ls s → (lv = 0 ∨ lv = 1) → iv_O (sk k n came ls s lv).2.1 (sk k n came ls s lv).2.2.1 ∧ (sk k n came ls s lv).2.1.length = ls.length ∧ ((sk k n came ls s lv).2.2.2 = 0 ∨ (sk k n came ls s lv).2.2.2 = 1) := by
  induction k with
  | zero => intro n came ls s lv hv hl; exact ⟨hv, rfl, hl⟩
  | succ k ih =>
    intro n came ls s lv hv hl
    simp only [sk]
    by_cases h0 : n ≤ came
    · rw [if_pos h0]; exact ⟨hv, rfl, hl⟩
    · rw [if_neg h0]
      have hK := rd_iv ls s lv (n - came) (by omega) hv hl
      generalize rd ls s lv (n - came) = z at *
      match z, hK with
      | ((none, ls1, s1), lv1), hK => exact ⟨hK.1, hK.2.1, hK.2.2.1⟩
      | ((some [], ls1, s1), lv1), hK => exact ⟨hK.1, hK.2.1, hK.2.2.1⟩
      | ((some (x :: bs), ls1, s1), lv1), hK =>
        have := ih n (came + (x :: bs).length) ls1 s1 lv1 hK.1 hK.2.2.1
        exact ⟨this.1, this.2.1.trans hK.2.1, this.2.2⟩
theorem T_sk (b : Nat) (lvm cl : Int32) (bag lt : List Int32) (h0 : Hs_t) (k : Nat) : ∀ (n x2 x3 F : Nat) (h : Hs_t) (as : List Nat) (ls : List Ly_t) (s : Sr_t) (lv : Int32), RT b as h ls s lv lvm cl bag lt → FK b h0 h → iv_O ls s → ls.length ≤ 5 → (lv = 0 ∨ lv = 1) → x3 ≤ x2 → x2 ≤ n → n - x2 ≤ k → n ≤ 120 →
    match (sk k n x2 ls s lv) with
    | (some c, ls1, s1, lv1) => ∃ h', f_T_skip_b26 (F + k + 1) b (ni n) (ni x2) (ni x3) h = re_I (ni c) h' ∧ RT b as h' ls1 s1 lv1 lvm cl bag lt ∧ FK b h0 h'
    | (none, ls1, s1, lv1) => ThR b h0 (f_T_skip_b26 (F + k + 1) b (ni n) (ni x2) (ni x3) h) 10 (fun as' h' => RT b as' h' ls1 s1 lv1 lvm cl bag lt) := by
  induction k with
  | zero =>
    intro n x2 x3 F h as ls s lv hT hF hv hL hlv h32 h2n hk hn
    rw [f_T_skip_b26]
    simp only [sk]
    refine ⟨h, ?_, hT, hF⟩
    split
    · rfl
    · rw [if_pos (niL (by omega) (by omega) (by omega))]; rfl
  | succ k ih =>
    intro n x2 x3 F h as ls s lv hT hF hv hL hlv h32 h2n hk hn
    rw [show F + (k + 1) + 1 = (F + k + 1) + 1 by omega, f_T_skip_b26]
    simp only [sk]
    by_cases h0 : n ≤ x2
    · simp only [h0, if_true]
      refine ⟨h, ?_, hT, hF⟩
      split
      · rfl
      · rw [if_pos (niL (by omega) (by omega) (by omega))]; rfl
    · rw [if_neg (niNL (by omega) (by omega) (by omega)), if_neg (niNL (by omega) (by omega) (by omega)), if_neg h0, ni_sub h2n]
      have hK := rd_iv ls s lv (n - x2) (by omega) hv hlv
      obtain ⟨h1, f1, e1, e2, e3, e4, e5, e6⟩ := T_request hT hv hL (n := n - x2) (by omega) (by omega)
      rw [ck_0 hT, Option.bind_some, e1]
      simp only [bd_I, re_I]
      generalize rd ls s lv (n - x2) = z at *
      match z, hK, e2, e6 with
      | ((none, ls1, s1), lv1), hK, e2, e6 =>
        rw [show rc_I (((none, ls1, s1), lv1) : Rq_t × Int32).1.1 = -1 from rfl, if_pos rfl]
        dsimp only
        by_cases h00 : x2 = 0
        · rw [if_pos h00, if_pos (by rw [h00]; rfl)]
          exact T_throw e2 (hF.trans e3) 10
        · rw [if_neg h00, if_neg (show ¬ ni x2 = 0 from niNE (b := 0) (by omega) (by omega) h00), f_T_skip_b63, if_pos rfl]
          exact ⟨h1, rfl, e2, hF.trans e3⟩
      | ((some [], ls1, s1), lv1), hK, e2, e6 =>
        rw [show rc_I (((some [], ls1, s1), lv1) : Rq_t × Int32).1.1 = 0 from rfl, if_neg (show ¬ ((0 : Int32) = -1) by decide), f_T_skip_b63, if_neg (show ¬ ((0 : Int32) = -1) by decide), if_pos rfl]
        exact ⟨h1, rfl, e2, hF.trans e3⟩
      | ((some (x :: bs), ls1, s1), lv1), hK, e2, e6 =>
        have h1' := hK.2.2.2.2 _ rfl
        have h2' := h1'.1
        have h3' : 1 ≤ (x :: bs).length := by simp
        dsimp only
        generalize hss : x :: bs = ss at *
        have m1 := ni_m (show ss.length < 2147483648 by omega)
        have m0 : ¬ (ni ss.length = 0) := niNE (b := 0) (by omega) (by omega) (by omega)
        simp only [rc_I, m1, m0, if_false, f_T_skip_b63, ni_add, ni_p1]
        exact ih n (x2 + ss.length) (x3 + 1) F h1 as ls1 s1 lv1 e2 (hF.trans e3) hK.1 (by rw [hK.2.1]; exact hL) hK.2.2.1 (by omega) (by omega) (by omega) hn
theorem M_sk0 (m : Nat) (h : Hs_t) (F : Nat) (n x2 : Int32) (g : Mg_t) : f_M_skip_b48 (F + 1) m n x2 0 (MH m g h) = if g.1 0 ≤ 0 then re_I x2 (MH m g h) else re_I 0 (MH m g h) := by
  rw [f_M_skip_b48, if_pos rfl, f_M_skip_b105]
  simp only [mI_0, mP_0, mI_4, mP_4, mI_5, mP_5, mI_6, mP_6, mI_20, mP_20, mI_21, mP_21, mI_22, mP_22, mI_23, mP_23, mI_25, mP_25, mI_27, mP_27, mR_1, mG_1, mS_1, mR_2, mG_2, mS_2, mR_3, mG_3, mS_3, mR_7, mG_7, mS_7, mR_8, mG_8, mS_8, mR_9, mG_9, mS_9, mR_10, mG_10, mS_10, mR_11, mG_11, mS_11, mR_12, mG_12, mS_12, mR_13, mG_13, mS_13, mR_14, mG_14, mS_14, mR_15, mG_15, mS_15, mR_16, mG_16, mS_16, mR_17, mG_17, mS_17, mR_18, mG_18, mS_18, mR_19, mG_19, mS_19, mR_24, mG_24, mS_24, mR_26, mG_26, mS_26, mK_8, gS_1, gS_2, gA_1, gA_2, Option.bind_some, Option.bind_none, f_M_skip_b117]
theorem M_sk (m : Nat) (h : Hs_t) (lvm cl : Int32) (bag lt : List Int32) (k : Nat) : ∀ (n x2 F : Nat) (g : Mg_t) (ls : List Ly_t) (s : Sr_t) (lv : Int32), RW g ls s lv lvm cl bag lt → g.1 0 = 0 → iv_O ls s → ls.length ≤ 5 → (lv = 0 ∨ lv = 1) → x2 ≤ n → n - x2 ≤ k → n ≤ 120 →
    match (sk k n x2 ls s lv) with
    | (some c, ls1, s1, lv1) => ∃ g', f_M_skip_b48 (F + k + 2) m (ni n) (ni x2) 1 (MH m g h) = re_I (ni c) (MH m g' h) ∧ RW g' ls1 s1 lv1 lvm cl bag lt ∧ g'.1 0 = 0
    | (none, ls1, s1, lv1) => ∃ g', f_M_skip_b48 (F + k + 2) m (ni n) (ni x2) 1 (MH m g h) = re_I 0 (MH m g' h) ∧ RW g' ls1 s1 lv1 lvm cl bag lt ∧ g'.1 0 = 2 := by
  induction k with
  | zero =>
    intro n x2 F g ls s lv hR hg0 hv hL hlv h2n hk hn
    rw [f_M_skip_b48, if_neg (by decide), if_pos (niL (by omega) (by omega) (by omega)), f_M_skip_b105]
    simp only [mI_0, mP_0, mI_4, mP_4, mI_5, mP_5, mI_6, mP_6, mI_20, mP_20, mI_21, mP_21, mI_22, mP_22, mI_23, mP_23, mI_25, mP_25, mI_27, mP_27, mR_1, mG_1, mS_1, mR_2, mG_2, mS_2, mR_3, mG_3, mS_3, mR_7, mG_7, mS_7, mR_8, mG_8, mS_8, mR_9, mG_9, mS_9, mR_10, mG_10, mS_10, mR_11, mG_11, mS_11, mR_12, mG_12, mS_12, mR_13, mG_13, mS_13, mR_14, mG_14, mS_14, mR_15, mG_15, mS_15, mR_16, mG_16, mS_16, mR_17, mG_17, mS_17, mR_18, mG_18, mS_18, mR_19, mG_19, mS_19, mR_24, mG_24, mS_24, mR_26, mG_26, mS_26, mK_8, gS_1, gS_2, gA_1, gA_2, Option.bind_some, Option.bind_none, hg0, sk, f_M_skip_b117, show ((0 : Int32) ≤ 0) = True by decide, if_true]
    exact ⟨g, rfl, hR, hg0⟩
  | succ k ih =>
    intro n x2 F g ls s lv hR hg0 hv hL hlv h2n hk hn
    rw [show F + (k + 1) + 2 = (F + k + 2) + 1 by omega, f_M_skip_b48, if_neg (by decide)]
    simp only [sk]
    by_cases h0 : n ≤ x2
    · rw [if_pos (niL (by omega) (by omega) h0), if_pos h0, f_M_skip_b105]
      simp only [mI_0, mP_0, mI_4, mP_4, mI_5, mP_5, mI_6, mP_6, mI_20, mP_20, mI_21, mP_21, mI_22, mP_22, mI_23, mP_23, mI_25, mP_25, mI_27, mP_27, mR_1, mG_1, mS_1, mR_2, mG_2, mS_2, mR_3, mG_3, mS_3, mR_7, mG_7, mS_7, mR_8, mG_8, mS_8, mR_9, mG_9, mS_9, mR_10, mG_10, mS_10, mR_11, mG_11, mS_11, mR_12, mG_12, mS_12, mR_13, mG_13, mS_13, mR_14, mG_14, mS_14, mR_15, mG_15, mS_15, mR_16, mG_16, mS_16, mR_17, mG_17, mS_17, mR_18, mG_18, mS_18, mR_19, mG_19, mS_19, mR_24, mG_24, mS_24, mR_26, mG_26, mS_26, mK_8, gS_1, gS_2, gA_1, gA_2, Option.bind_some, Option.bind_none, hg0, f_M_skip_b117, show ((0 : Int32) ≤ 0) = True by decide, if_true]
      exact ⟨g, rfl, hR, hg0⟩
    · rw [if_neg (niNL (by omega) (by omega) (by omega)), if_neg h0, ni_sub h2n]
      have hK := rd_iv ls s lv (n - x2) (by omega) hv hlv
      obtain ⟨g1, e1, e2, e3, e4⟩ := M_reads (m := m) (h := h) hR hv hL (n := n - x2) (by omega) (by omega)
      simp only [mI_0, mP_0, mI_4, mP_4, mI_5, mP_5, mI_6, mP_6, mI_20, mP_20, mI_21, mP_21, mI_22, mP_22, mI_23, mP_23, mI_25, mP_25, mI_27, mP_27, mR_1, mG_1, mS_1, mR_2, mG_2, mS_2, mR_3, mG_3, mS_3, mR_7, mG_7, mS_7, mR_8, mG_8, mS_8, mR_9, mG_9, mS_9, mR_10, mG_10, mS_10, mR_11, mG_11, mS_11, mR_12, mG_12, mS_12, mR_13, mG_13, mS_13, mR_14, mG_14, mS_14, mR_15, mG_15, mS_15, mR_16, mG_16, mS_16, mR_17, mG_17, mS_17, mR_18, mG_18, mS_18, mR_19, mG_19, mS_19, mR_24, mG_24, mS_24, mR_26, mG_26, mS_26, mK_8, gS_1, gS_2, gA_1, gA_2, Option.bind_some, Option.bind_none, e1]
      generalize rd ls s lv (n - x2) = z at *
      match z, hK, e2, e3 with
      | ((none, ls1, s1), lv1), hK, e2, e3 =>
        simp only [Option.isSome, Bool.false_eq_true, if_false, re_Z0, eq_self, if_true, if_false, ite_true, ite_false, bd_I, bd_V, bd_A, bd_L, re_I, re_V, Bool.true_and, Bool.and_true, reduceIte, reduceCtorEq, ↓reduceIte, Nat.reduceEqDiff, f_M_skip_b78]
        by_cases h00 : x2 = 0
        · subst h00
          simp only [show (ni 0 = 0) = True by decide, if_true, mI_0, mP_0, mI_4, mP_4, mI_5, mP_5, mI_6, mP_6, mI_20, mP_20, mI_21, mP_21, mI_22, mP_22, mI_23, mP_23, mI_25, mP_25, mI_27, mP_27, mR_1, mG_1, mS_1, mR_2, mG_2, mS_2, mR_3, mG_3, mS_3, mR_7, mG_7, mS_7, mR_8, mG_8, mS_8, mR_9, mG_9, mS_9, mR_10, mG_10, mS_10, mR_11, mG_11, mS_11, mR_12, mG_12, mS_12, mR_13, mG_13, mS_13, mR_14, mG_14, mS_14, mR_15, mG_15, mS_15, mR_16, mG_16, mS_16, mR_17, mG_17, mS_17, mR_18, mG_18, mS_18, mR_19, mG_19, mS_19, mR_24, mG_24, mS_24, mR_26, mG_26, mS_26, mK_8, gS_1, gS_2, gA_1, gA_2, Option.bind_some, Option.bind_none]
          rw [show F + k + 2 = (F + k + 1) + 1 by omega, M_sk0]
          simp only [mI_0, mP_0, mI_4, mP_4, mI_5, mP_5, mI_6, mP_6, mI_20, mP_20, mI_21, mP_21, mI_22, mP_22, mI_23, mP_23, mI_25, mP_25, mI_27, mP_27, mR_1, mG_1, mS_1, mR_2, mG_2, mS_2, mR_3, mG_3, mS_3, mR_7, mG_7, mS_7, mR_8, mG_8, mS_8, mR_9, mG_9, mS_9, mR_10, mG_10, mS_10, mR_11, mG_11, mS_11, mR_12, mG_12, mS_12, mR_13, mG_13, mS_13, mR_14, mG_14, mS_14, mR_15, mG_15, mS_15, mR_16, mG_16, mS_16, mR_17, mG_17, mS_17, mR_18, mG_18, mS_18, mR_19, mG_19, mS_19, mR_24, mG_24, mS_24, mR_26, mG_26, mS_26, mK_8, gS_1, gS_2, gA_1, gA_2, Option.bind_some, Option.bind_none, eq_self, if_true, if_false, ite_true, ite_false, bd_I, bd_V, bd_A, bd_L, re_I, re_V, Bool.true_and, Bool.and_true, reduceIte, reduceCtorEq, ↓reduceIte, Nat.reduceEqDiff]
          exact ⟨_, rfl, e2.cd 2, rfl⟩
        · have n0 : ¬ ni x2 = 0 := niNE (b := 0) (by omega) (by omega) h00
          simp only [n0, h00, if_false]
          rw [show F + k + 2 = (F + k + 1) + 1 by omega, M_sk0, e4, hg0, if_pos (by decide)]
          exact ⟨_, rfl, e2, by rw [e4, hg0]⟩
      | ((some [], ls1, s1), lv1), hK, e2, e3 =>
        have hA := e3 _ rfl
        simp only [Option.isSome, if_true, re_Z1, eq_self, if_true, if_false, ite_true, ite_false, bd_I, bd_V, bd_A, bd_L, re_I, re_V, Bool.true_and, Bool.and_true, reduceIte, reduceCtorEq, ↓reduceIte, Nat.reduceEqDiff, show ((1 : Int32) = 0) = False by decide, f_M_skip_b78, hA.1, List.length_nil, f_M_skip_b101, mI_0, mP_0, mI_4, mP_4, mI_5, mP_5, mI_6, mP_6, mI_20, mP_20, mI_21, mP_21, mI_22, mP_22, mI_23, mP_23, mI_25, mP_25, mI_27, mP_27, mR_1, mG_1, mS_1, mR_2, mG_2, mS_2, mR_3, mG_3, mS_3, mR_7, mG_7, mS_7, mR_8, mG_8, mS_8, mR_9, mG_9, mS_9, mR_10, mG_10, mS_10, mR_11, mG_11, mS_11, mR_12, mG_12, mS_12, mR_13, mG_13, mS_13, mR_14, mG_14, mS_14, mR_15, mG_15, mS_15, mR_16, mG_16, mS_16, mR_17, mG_17, mS_17, mR_18, mG_18, mS_18, mR_19, mG_19, mS_19, mR_24, mG_24, mS_24, mR_26, mG_26, mS_26, mK_8, gS_1, gS_2, gA_1, gA_2, Option.bind_some, Option.bind_none, show (ni 0 ≤ 0) = True by decide, ni_add, Nat.add_zero]
        rw [show F + k + 2 = (F + k + 1) + 1 by omega, M_sk0, e4, hg0, if_pos (by decide)]
        exact ⟨_, rfl, e2, by rw [e4, hg0]⟩
      | ((some (x :: bs), ls1, s1), lv1), hK, e2, e3 =>
        have hA := e3 _ rfl
        have h1' := hK.2.2.2.2 _ rfl
        have h2' := h1'.1
        have h3' : 1 ≤ (x :: bs).length := by simp
        dsimp only
        generalize hss : x :: bs = ss at *
        have m0 : ¬ (ni ss.length ≤ 0) := niNL (b := 0) (by omega) (by omega) (by omega)
        simp only [Option.isSome, if_true, re_Z1, show ((1 : Int32) = 0) = False by decide, bd_I, if_false, f_M_skip_b78, hA.1, f_M_skip_b101, mI_0, mP_0, mI_4, mP_4, mI_5, mP_5, mI_6, mP_6, mI_20, mP_20, mI_21, mP_21, mI_22, mP_22, mI_23, mP_23, mI_25, mP_25, mI_27, mP_27, mR_1, mG_1, mS_1, mR_2, mG_2, mS_2, mR_3, mG_3, mS_3, mR_7, mG_7, mS_7, mR_8, mG_8, mS_8, mR_9, mG_9, mS_9, mR_10, mG_10, mS_10, mR_11, mG_11, mS_11, mR_12, mG_12, mS_12, mR_13, mG_13, mS_13, mR_14, mG_14, mS_14, mR_15, mG_15, mS_15, mR_16, mG_16, mS_16, mR_17, mG_17, mS_17, mR_18, mG_18, mS_18, mR_19, mG_19, mS_19, mR_24, mG_24, mS_24, mR_26, mG_26, mS_26, mK_8, gS_1, gS_2, gA_1, gA_2, Option.bind_some, Option.bind_none, m0, ni_add]
        exact ih n (x2 + ss.length) F g1 ls1 s1 lv1 e2 (by rw [e4, hg0]) hK.1 (by rw [hK.2.1]; exact hL) hK.2.2.1 (by omega) (by omega) hn
def op_skip (w : Wd_t) (x : Int32) : (Option Value ⊕ Nat) × Wd_t := match w with
  | (ls, s, lv, lvm, cl, _, lt) => if cl = 0 then (if x < 0 then (.inr 9, (ls, s, lv, lvm, cl, [], lt)) else if x ≤ 120 then (match sk x.toNatClampNeg x.toNatClampNeg 0 ls s lv with
    | (some c, ls1, s1, lv1) => (.inl (some (.int (ni c))), (ls1, s1, lv1, lvm, cl, [], lt))
    | (none, ls1, s1, lv1) => (.inr 10, (ls1, s1, lv1, lvm, cl, [], lt))) else (.inr 9, (ls, s, lv, lvm, cl, [], lt))) else (.inr 10, (ls, s, lv, lvm, cl, [], lt))
theorem T_skip {b : Nat} {as : List Nat} {h : Hs_t} {w : Wd_t} (hT : RTw b as h w) (hv : wv_O w) (x : Int32) : TR b h (f_T_skip b x h) (op_skip w x).1 (op_skip w x).2 := by
  obtain ⟨ls, s, lv, lvm, cl, bag, lt⟩ := w
  have hT : RT b as h ls s lv lvm cl bag lt := hT
  obtain ⟨v1, v2, v3, v4, v5, v6, v7, v8⟩ := hv
  rw [f_T_skip, ck_0 hT, Option.bind_some]
  simp only [op_skip]
  by_cases hc : cl = 0
  · obtain ⟨h1, e1, e2, e3⟩ := (T_start hT _).1 hc
    rw [e1, if_pos hc]
    by_cases x1 : x < 0
    · rw [if_pos x1, if_pos x1]
      exact T_throw e2 e3 9
    · rw [if_neg x1, if_neg x1]
      by_cases x2 : x ≤ 120
      · rw [if_pos x2, if_pos x2]
        obtain ⟨n, rfl, n1, n2⟩ := rg (lo := 0) (hi := 120) x1 x2 (by omega) (by omega)
        rw [ni_nat (by omega)]
        have := T_sk b lvm cl [] lt h n n 0 0 (fu_N - n - 1) h1 as ls s lv e2 e3 v1 v2 v3 (Nat.le_refl _) (by omega) (by omega) (by omega)
        rw [show fu_N - n - 1 + n + 1 = fu_N by simp only [fu_N]; omega] at this
        generalize sk n n 0 ls s lv = z at *
        match z, this with
        | (some c, ls1, s1, lv1), this =>
          obtain ⟨h2, q1, q2, q3⟩ := this
          exact ⟨h2, as, q1, q2, q3⟩
        | (none, ls1, s1, lv1), this => exact this
      · rw [if_neg x2, if_neg x2]
        exact T_throw e2 e3 9
  · rw [if_neg hc]
    exact (T_start hT _).2 hc
theorem M_skip {m : Nat} {h : Hs_t} {g : Mg_t} {w : Wd_t} (hR : RWw g w) (hv : wv_O w) (x : Int32) : MO m h (f_M_skip m x (MH m g h)) (op_skip w x).1 (fun t => if t = 9 then 1 else 2) (some (.int 0)) (op_skip w x).2 := by
  obtain ⟨ls, s, lv, lvm, cl, bag, lt⟩ := w
  have hR : RW g ls s lv lvm cl bag lt := hR
  obtain ⟨v1, v2, v3, v4, v5, v6, v7, v8⟩ := hv
  have e21 : g.1 21 = cl := hR.2.2.2.1
  have hR0 := hR.clr
  rw [f_M_skip]
  simp only [mI_0, mP_0, mI_4, mP_4, mI_5, mP_5, mI_6, mP_6, mI_20, mP_20, mI_21, mP_21, mI_22, mP_22, mI_23, mP_23, mI_25, mP_25, mI_27, mP_27, mR_1, mG_1, mS_1, mR_2, mG_2, mS_2, mR_3, mG_3, mS_3, mR_7, mG_7, mS_7, mR_8, mG_8, mS_8, mR_9, mG_9, mS_9, mR_10, mG_10, mS_10, mR_11, mG_11, mS_11, mR_12, mG_12, mS_12, mR_13, mG_13, mS_13, mR_14, mG_14, mS_14, mR_15, mG_15, mS_15, mR_16, mG_16, mS_16, mR_17, mG_17, mS_17, mR_18, mG_18, mS_18, mR_19, mG_19, mS_19, mR_24, mG_24, mS_24, mR_26, mG_26, mS_26, mK_8, gS_1, gS_2, gA_1, gA_2, Option.bind_some, Option.bind_none, eq_self, if_true, if_false, ite_true, ite_false, bd_I, bd_V, bd_A, bd_L, re_I, re_V, Bool.true_and, Bool.and_true, reduceIte, reduceCtorEq, ↓reduceIte, Nat.reduceEqDiff, e21, op_skip]
  by_cases hc : cl = 0
  · simp only [hc, if_true]
    subst hc
    by_cases x1 : x < 0
    · simp only [x1, if_true, f_M_skip_b27, f_M_skip_b32, mI_0, mP_0, mI_4, mP_4, mI_5, mP_5, mI_6, mP_6, mI_20, mP_20, mI_21, mP_21, mI_22, mP_22, mI_23, mP_23, mI_25, mP_25, mI_27, mP_27, mR_1, mG_1, mS_1, mR_2, mG_2, mS_2, mR_3, mG_3, mS_3, mR_7, mG_7, mS_7, mR_8, mG_8, mS_8, mR_9, mG_9, mS_9, mR_10, mG_10, mS_10, mR_11, mG_11, mS_11, mR_12, mG_12, mS_12, mR_13, mG_13, mS_13, mR_14, mG_14, mS_14, mR_15, mG_15, mS_15, mR_16, mG_16, mS_16, mR_17, mG_17, mS_17, mR_18, mG_18, mS_18, mR_19, mG_19, mS_19, mR_24, mG_24, mS_24, mR_26, mG_26, mS_26, mK_8, gS_1, gS_2, gA_1, gA_2, Option.bind_some, Option.bind_none, eq_self, if_true, if_false, ite_true, ite_false, bd_I, bd_V, bd_A, bd_L, re_I, re_V, Bool.true_and, Bool.and_true, reduceIte, reduceCtorEq, ↓reduceIte, Nat.reduceEqDiff, show ¬ ((1 : Int32) ≤ 0) by decide]
      exact ⟨_, rfl, hR0.cd 1, rfl⟩
    · simp only [x1, if_false]
      by_cases x2 : x ≤ 120
      · simp only [x2, if_true]
        obtain ⟨n, rfl, n1, n2⟩ := rg (lo := 0) (hi := 120) x1 x2 (by omega) (by omega)
        rw [ni_nat (by omega)]
        have := M_sk m h lvm 0 [] lt n n 0 (fu_N - n - 2) (gS (gS g 25 0) 0 0) ls s lv (hR0.cd 0) rfl v1 v2 v3 (by omega) (by omega) (by omega)
        rw [show fu_N - n - 2 + n + 2 = fu_N by simp only [fu_N]; omega] at this
        simp only [f_M_skip_b32, mI_0, mP_0, mI_4, mP_4, mI_5, mP_5, mI_6, mP_6, mI_20, mP_20, mI_21, mP_21, mI_22, mP_22, mI_23, mP_23, mI_25, mP_25, mI_27, mP_27, mR_1, mG_1, mS_1, mR_2, mG_2, mS_2, mR_3, mG_3, mS_3, mR_7, mG_7, mS_7, mR_8, mG_8, mS_8, mR_9, mG_9, mS_9, mR_10, mG_10, mS_10, mR_11, mG_11, mS_11, mR_12, mG_12, mS_12, mR_13, mG_13, mS_13, mR_14, mG_14, mS_14, mR_15, mG_15, mS_15, mR_16, mG_16, mS_16, mR_17, mG_17, mS_17, mR_18, mG_18, mS_18, mR_19, mG_19, mS_19, mR_24, mG_24, mS_24, mR_26, mG_26, mS_26, mK_8, gS_1, gS_2, gA_1, gA_2, Option.bind_some, Option.bind_none, eq_self, if_true, if_false, ite_true, ite_false, bd_I, bd_V, bd_A, bd_L, re_I, re_V, Bool.true_and, Bool.and_true, reduceIte, reduceCtorEq, ↓reduceIte, Nat.reduceEqDiff, show ((0 : Int32) ≤ 0) = True by decide]
        rw [show (ni 0) = 0 from rfl] at this
        generalize f_M_skip_b48 fu_N m (ni n) 0 1 (MH m (gS (gS g 25 0) 0 0) h) = FF at *
        generalize sk n n 0 ls s lv = z at *
        match z, this with
        | (some c, ls1, s1, lv1), this =>
          obtain ⟨g1, q1, q2, q3⟩ := this
          exact ⟨g1, q1, q2, q3⟩
        | (none, ls1, s1, lv1), this =>
          obtain ⟨g1, q1, q2, q3⟩ := this
          exact ⟨g1, q1, q2, q3⟩
      · simp only [x2, if_false, f_M_skip_b27, f_M_skip_b32, mI_0, mP_0, mI_4, mP_4, mI_5, mP_5, mI_6, mP_6, mI_20, mP_20, mI_21, mP_21, mI_22, mP_22, mI_23, mP_23, mI_25, mP_25, mI_27, mP_27, mR_1, mG_1, mS_1, mR_2, mG_2, mS_2, mR_3, mG_3, mS_3, mR_7, mG_7, mS_7, mR_8, mG_8, mS_8, mR_9, mG_9, mS_9, mR_10, mG_10, mS_10, mR_11, mG_11, mS_11, mR_12, mG_12, mS_12, mR_13, mG_13, mS_13, mR_14, mG_14, mS_14, mR_15, mG_15, mS_15, mR_16, mG_16, mS_16, mR_17, mG_17, mS_17, mR_18, mG_18, mS_18, mR_19, mG_19, mS_19, mR_24, mG_24, mS_24, mR_26, mG_26, mS_26, mK_8, gS_1, gS_2, gA_1, gA_2, Option.bind_some, Option.bind_none, eq_self, if_true, if_false, ite_true, ite_false, bd_I, bd_V, bd_A, bd_L, re_I, re_V, Bool.true_and, Bool.and_true, reduceIte, reduceCtorEq, ↓reduceIte, Nat.reduceEqDiff, show ¬ ((1 : Int32) ≤ 0) by decide]
        exact ⟨_, rfl, hR0.cd 1, rfl⟩
  · simp only [hc, if_false, f_M_skip_b32, mI_0, mP_0, mI_4, mP_4, mI_5, mP_5, mI_6, mP_6, mI_20, mP_20, mI_21, mP_21, mI_22, mP_22, mI_23, mP_23, mI_25, mP_25, mI_27, mP_27, mR_1, mG_1, mS_1, mR_2, mG_2, mS_2, mR_3, mG_3, mS_3, mR_7, mG_7, mS_7, mR_8, mG_8, mS_8, mR_9, mG_9, mS_9, mR_10, mG_10, mS_10, mR_11, mG_11, mS_11, mR_12, mG_12, mS_12, mR_13, mG_13, mS_13, mR_14, mG_14, mS_14, mR_15, mG_15, mS_15, mR_16, mG_16, mS_16, mR_17, mG_17, mS_17, mR_18, mG_18, mS_18, mR_19, mG_19, mS_19, mR_24, mG_24, mS_24, mR_26, mG_26, mS_26, mK_8, gS_1, gS_2, gA_1, gA_2, Option.bind_some, Option.bind_none, eq_self, if_true, if_false, ite_true, ite_false, bd_I, bd_V, bd_A, bd_L, re_I, re_V, Bool.true_and, Bool.and_true, reduceIte, reduceCtorEq, ↓reduceIte, Nat.reduceEqDiff, show ¬ ((2 : Int32) ≤ 0) by decide]
    exact ⟨_, rfl, hR0.cd 2, rfl⟩
/-- line -/
def li : Nat → List Ly_t → Sr_t → Int32 → List Int32 → Option Int32 × List Ly_t × Sr_t × Int32 × List Int32
  | 0, ls, s, lv, bag => (some (ni bag.length), ls, s, lv, bag)
  | k + 1, ls, s, lv, bag => match rd ls s lv 1 with
    | ((none, ls1, s1), lv1) => (none, ls1, s1, lv1, bag)
    | ((some [], ls1, s1), lv1) => (some (if bag = [] then -1 else ni bag.length), ls1, s1, lv1, bag)
    | ((some (x :: _), ls1, s1), lv1) => if x = 10 ∨ x = 13 then (some (ni bag.length), ls1, s1, (if x = 13 then 1 else 0), bag) else li k ls1 s1 lv1 (bag ++ [x])
theorem li_iv (k : Nat) : ∀ (ls : List Ly_t) (s : Sr_t) (lv : Int32) (bag : List Int32), iv_O ls s → (lv = 0 ∨ lv = 1) → by_A bag → bag.length + ph_N ls s ≤ 160 → iv_O (li k ls s lv bag).2.1 (li k ls s lv bag).2.2.1 ∧ (li k ls s lv bag).2.1.length = ls.length ∧ ((li k ls s lv bag).2.2.2.1 = 0 ∨ (li k ls s lv bag).2.2.2.1 = 1) ∧ by_A (li k ls s lv bag).2.2.2.2 ∧ (li k ls s lv bag).2.2.2.2.length ≤ 160 := by
  induction k with
  | zero => intro ls s lv bag hv hl hb hp; exact ⟨hv, rfl, hl, hb, by simp only [li]; omega⟩
  | succ k ih =>
    intro ls s lv bag hv hl hb hp
    simp only [li]
    have hK := rd_iv ls s lv 1 (by omega) hv hl
    generalize rd ls s lv 1 = z at *
    match z, hK with
    | ((none, ls1, s1), lv1), hK => exact ⟨hK.1, hK.2.1, hK.2.2.1, hb, by dsimp only; omega⟩
    | ((some [], ls1, s1), lv1), hK => exact ⟨hK.1, hK.2.1, hK.2.2.1, hb, by dsimp only; omega⟩
    | ((some (x :: bs), ls1, s1), lv1), hK =>
      have h1 := hK.2.2.2.2 _ rfl
      have h2 := h1.2.2.1
      simp only [List.length_cons] at h2
      dsimp only
      by_cases hx : x = 10 ∨ x = 13
      · rw [if_pos hx]
        exact ⟨hK.1, hK.2.1, by dsimp only; split; exact Or.inr rfl; exact Or.inl rfl, hb, by dsimp only; omega⟩
      · rw [if_neg hx]
        have := ih ls1 s1 lv1 (bag ++ [x]) hK.1 hK.2.2.1 (by_app hb (fun y hy => by simp only [List.mem_cons, List.not_mem_nil, or_false] at hy; subst hy; exact h1.2.1 _ (by simp))) (by simp only [List.length_append, List.length_cons, List.length_nil]; omega)
        exact ⟨this.1, this.2.1.trans hK.2.1, this.2.2⟩
theorem ph_160 {ls : List Ly_t} {s : Sr_t} (hv : iv_O ls s) (hL : ls.length ≤ 5) : ph_N ls s ≤ 160 := by
  cases ls with
  | nil => simp only [ph_N]; omega
  | cons L ls => have := hv.2.1; simp only [List.length_cons] at *; omega
theorem T_li (b : Nat) (lvm cl : Int32) (lt : List Int32) (h0 : Hs_t) (k : Nat) : ∀ (t F : Nat) (h : Hs_t) (as : List Nat) (ls : List Ly_t) (s : Sr_t) (lv : Int32) (bag : List Int32), RT b as h ls s lv lvm cl bag lt → FK b h0 h → iv_O ls s → ls.length ≤ 5 → (lv = 0 ∨ lv = 1) → bag.length + ph_N ls s ≤ 160 → t + k = 161 →
    match (li k ls s lv bag) with
    | (some c, ls1, s1, lv1, bag1) => ∃ h', f_T_line_b6 (F + k + 1) b (ni t) h = re_I c h' ∧ RT b as h' ls1 s1 lv1 lvm cl bag1 lt ∧ FK b h0 h'
    | (none, ls1, s1, lv1, bag1) => ThR b h0 (f_T_line_b6 (F + k + 1) b (ni t) h) 10 (fun as' h' => RT b as' h' ls1 s1 lv1 lvm cl bag1 lt) := by
  induction k with
  | zero =>
    intro t F h as ls s lv bag hT hF hv hL hlv hp ht
    have a4 := hT.2.2.2.1
    have a1 := hT.1
    rw [f_T_line_b6, if_pos (show (160 : Int32) < ni t from niT (a := 160) (by omega) (by omega) (by omega))]
    simp only [li, fd_I, fd_V, fd_A, pt_V, pt_Z, ar_I, ar_Z, ar_R, as_I, as_Z, cp_I, ln_A, ck_T, tg_O, hp_2, List.contains_cons, List.contains_nil, List.getElem?_cons_zero, List.getElem?_cons_succ, List.set_cons_succ, List.set_cons_zero, List.length_cons, List.length_nil, Option.bind_some, Option.bind_none, Nat.reduceLT, Nat.reduceAdd, Nat.reduceBEq, BEq.rfl, beq_self_eq_true, Bool.or_false, Bool.or_true, Bool.true_or, Bool.false_or, decide_true, decide_false, Bool.not_false, Bool.not_true, Nat.zero_lt_succ, Nat.lt_add_left_iff_pos, Nat.succ_ne_self, ne_eq, not_false_eq_true, eq_self, if_true, if_false, ite_true, ite_false, bd_I, bd_V, bd_A, bd_L, re_I, re_V, Bool.true_and, Bool.and_true, reduceIte, reduceCtorEq, ↓reduceIte, Nat.reduceEqDiff, a1, a4]
    exact ⟨h, rfl, hT, hF⟩
  | succ k ih =>
    intro t F h as ls s lv bag hT hF hv hL hlv hp ht
    rw [show F + (k + 1) + 1 = (F + k + 1) + 1 by omega, f_T_line_b6, if_neg (show ¬ (160 : Int32) < ni t from niNT (a := 160) (by omega) (by omega) (by omega))]
    simp only [li]
    have hK := rd_iv ls s lv 1 (by omega) hv hlv
    obtain ⟨h1, f1, e1, e2, e3, e4, e5, e6⟩ := T_request hT hv hL (n := 1) (by omega) (by omega)
    rw [ck_0 hT, Option.bind_some, show f_T_request b 1 h = _ from e1]
    simp only [bd_I, re_I]
    generalize rd ls s lv 1 = z at *
    match z, hK, e2, e6 with
    | ((none, ls1, s1), lv1), hK, e2, e6 =>
      rw [show rc_I (((none, ls1, s1), lv1) : Rq_t × Int32).1.1 = -1 from rfl, if_pos rfl]
      exact T_throw e2 (hF.trans e3) 10
    | ((some [], ls1, s1), lv1), hK, e2, e6 =>
      have a4 := e2.2.2.2.1
      have a1 := e2.1
      rw [show rc_I (((some [], ls1, s1), lv1) : Rq_t × Int32).1.1 = 0 from rfl, if_neg (show ¬ ((0 : Int32) = -1) by decide), if_pos rfl]
      simp only [fd_I, fd_V, fd_A, pt_V, pt_Z, ar_I, ar_Z, ar_R, as_I, as_Z, cp_I, ln_A, ck_T, tg_O, hp_2, List.contains_cons, List.contains_nil, List.getElem?_cons_zero, List.getElem?_cons_succ, List.set_cons_succ, List.set_cons_zero, List.length_cons, List.length_nil, Option.bind_some, Option.bind_none, Nat.reduceLT, Nat.reduceAdd, Nat.reduceBEq, BEq.rfl, beq_self_eq_true, Bool.or_false, Bool.or_true, Bool.true_or, Bool.false_or, decide_true, decide_false, Bool.not_false, Bool.not_true, Nat.zero_lt_succ, Nat.lt_add_left_iff_pos, Nat.succ_ne_self, ne_eq, not_false_eq_true, eq_self, if_true, if_false, ite_true, ite_false, bd_I, bd_V, bd_A, bd_L, re_I, re_V, Bool.true_and, Bool.and_true, reduceIte, reduceCtorEq, ↓reduceIte, Nat.reduceEqDiff, a1, a4, f_T_line_b57]
      cases bag with
      | nil => exact ⟨h1, rfl, e2, hF.trans e3⟩
      | cons y bag =>
        rw [if_neg (show ¬ ni (y :: bag).length = 0 from niNE (b := 0) (by omega) (by omega) (by simp))]
        exact ⟨h1, rfl, e2, hF.trans e3⟩
    | ((some (x :: bs), ls1, s1), lv1), hK, e2, e6 =>
      have h1' := hK.2.2.2.2 _ rfl
      have h2' := h1'.1
      have h3' := h1'.2.2.1
      have hlv1 : lv1 = 0 := h1'.2.2.2 (by simp)
      have a1 := e2.1
      obtain ⟨f8, a5, a5'⟩ := e2.2.2.2.2.1
      have a4 := e2.2.2.2.1
      simp only [List.length_cons] at h2' h3'
      have m1 := ni_m (show bs.length + 1 < 2147483648 by omega)
      have m0 : ¬ (ni (bs.length + 1) = 0) := niNE (b := 0) (by omega) (by omega) (by omega)
      have hx : f1 0 = x := by
        have := e6 _ rfl
        simp only [List.length_cons, sl, List.cons.injEq] at this
        exact this.1
      have z0 : is_Z 0 = true := by decide
      have z1 : is_Z 1 = true := by decide
      rw [show rc_I (((some (x :: bs), ls1, s1), lv1) : Rq_t × Int32).1.1 = ni (bs.length + 1) from rfl]
      simp only [m1, m0, if_false, fd_I, fd_V, fd_A, pt_V, pt_Z, ar_I, ar_Z, ar_R, as_I, as_Z, cp_I, ln_A, ck_T, tg_O, hp_2, List.contains_cons, List.contains_nil, List.getElem?_cons_zero, List.getElem?_cons_succ, List.set_cons_succ, List.set_cons_zero, List.length_cons, List.length_nil, Option.bind_some, Option.bind_none, Nat.reduceLT, Nat.reduceAdd, Nat.reduceBEq, BEq.rfl, beq_self_eq_true, Bool.or_false, Bool.or_true, Bool.true_or, Bool.false_or, decide_true, decide_false, Bool.not_false, Bool.not_true, Nat.zero_lt_succ, Nat.lt_add_left_iff_pos, Nat.succ_ne_self, ne_eq, not_false_eq_true, eq_self, if_true, if_false, ite_true, ite_false, bd_I, bd_V, bd_A, bd_L, re_I, re_V, Bool.true_and, Bool.and_true, reduceIte, reduceCtorEq, ↓reduceIte, Nat.reduceEqDiff, a1, e5, show in_R 0 120 = true by decide, show (0 : Int32).toNatClampNeg = 0 by decide, hx, f_T_line_b77, f_T_line_b89]
      by_cases b10 : x = 10
      · have n13 : ¬ ((10 : Int32) = 13) := by decide
        simp only [b10, if_true, n13, if_false, z0, fd_I, fd_V, fd_A, pt_V, pt_Z, ar_I, ar_Z, ar_R, as_I, as_Z, cp_I, ln_A, ck_T, tg_O, hp_2, List.contains_cons, List.contains_nil, List.getElem?_cons_zero, List.getElem?_cons_succ, List.set_cons_succ, List.set_cons_zero, List.length_cons, List.length_nil, Option.bind_some, Option.bind_none, Nat.reduceLT, Nat.reduceAdd, Nat.reduceBEq, BEq.rfl, beq_self_eq_true, Bool.or_false, Bool.or_true, Bool.true_or, Bool.false_or, decide_true, decide_false, Bool.not_false, Bool.not_true, Nat.zero_lt_succ, Nat.lt_add_left_iff_pos, Nat.succ_ne_self, ne_eq, not_false_eq_true, eq_self, if_true, if_false, ite_true, ite_false, bd_I, bd_V, bd_A, bd_L, re_I, re_V, Bool.true_and, Bool.and_true, reduceIte, reduceCtorEq, ↓reduceIte, Nat.reduceEqDiff, a1, a4, show ¬ b + 7 = b by omega, true_or]
        exact ⟨_, rfl, e2.own, (hF.trans e3).trans (FK.set (Or.inl (by omega)))⟩
      · by_cases b13 : x = 13
        · have n10 : ¬ ((13 : Int32) = 10) := by decide
          simp only [b13, if_true, n10, if_false, z1, fd_I, fd_V, fd_A, pt_V, pt_Z, ar_I, ar_Z, ar_R, as_I, as_Z, cp_I, ln_A, ck_T, tg_O, hp_2, List.contains_cons, List.contains_nil, List.getElem?_cons_zero, List.getElem?_cons_succ, List.set_cons_succ, List.set_cons_zero, List.length_cons, List.length_nil, Option.bind_some, Option.bind_none, Nat.reduceLT, Nat.reduceAdd, Nat.reduceBEq, BEq.rfl, beq_self_eq_true, Bool.or_false, Bool.or_true, Bool.true_or, Bool.false_or, decide_true, decide_false, Bool.not_false, Bool.not_true, Nat.zero_lt_succ, Nat.lt_add_left_iff_pos, Nat.succ_ne_self, ne_eq, not_false_eq_true, eq_self, if_true, if_false, ite_true, ite_false, bd_I, bd_V, bd_A, bd_L, re_I, re_V, Bool.true_and, Bool.and_true, reduceIte, reduceCtorEq, ↓reduceIte, Nat.reduceEqDiff, a1, a4, show ¬ b + 7 = b by omega, or_true]
          exact ⟨_, rfl, e2.own, (hF.trans e3).trans (FK.set (Or.inl (by omega)))⟩
        · obtain ⟨h2, f2, p1, p2, p3, p4, p5, p6⟩ := C_add a4 a5 a5' (by omega) (by omega) x
          simp only [b10, b13, if_false, or_self, fd_I, fd_V, fd_A, pt_V, pt_Z, ar_I, ar_Z, ar_R, as_I, as_Z, cp_I, ln_A, ck_T, tg_O, hp_2, List.contains_cons, List.contains_nil, List.getElem?_cons_zero, List.getElem?_cons_succ, List.set_cons_succ, List.set_cons_zero, List.length_cons, List.length_nil, Option.bind_some, Option.bind_none, Nat.reduceLT, Nat.reduceAdd, Nat.reduceBEq, BEq.rfl, beq_self_eq_true, Bool.or_false, Bool.or_true, Bool.true_or, Bool.false_or, decide_true, decide_false, Bool.not_false, Bool.not_true, Nat.zero_lt_succ, Nat.lt_add_left_iff_pos, Nat.succ_ne_self, ne_eq, not_false_eq_true, eq_self, if_true, if_false, ite_true, ite_false, bd_I, bd_V, bd_A, bd_L, re_I, re_V, Bool.true_and, Bool.and_true, reduceIte, reduceCtorEq, ↓reduceIte, Nat.reduceEqDiff, a4, p1, ni_p1]
          have hT2 : RT b as h2 ls1 s1 lv1 lvm cl (bag ++ [x]) lt := RT.bag e2 p2 p3 p4 p5 p6
          exact ih (t + 1) F h2 as ls1 s1 lv1 (bag ++ [x]) hT2 ((hF.trans e3).trans (fun q q1 q2 => p6 q (by omega) (by omega))) hK.1 (by rw [hK.2.1]; exact hL) hK.2.2.1 (by simp only [List.length_append, List.length_cons, List.length_nil]; omega) (by omega)
