theorem M_li0 (m : Nat) (h : Hs_t) (F : Nat) (x2 : Int32) (g : Mg_t) (hg : g.1 0 = 0) (hx : x2 = 0 ∨ x2 = 1) : f_M_line_b36 (F + 1) m 0 x2 (MH m g h) = re_I (if x2 = 0 then (if g.1 25 ≤ 0 then -1 else g.1 25) else g.1 25) (MH m g h) := by
  rw [f_M_line_b36, if_pos rfl]
  simp only [mI_0, mP_0, mI_4, mP_4, mI_5, mP_5, mI_6, mP_6, mI_20, mP_20, mI_21, mP_21, mI_22, mP_22, mI_23, mP_23, mI_25, mP_25, mI_27, mP_27, mR_1, mG_1, mS_1, mR_2, mG_2, mS_2, mR_3, mG_3, mS_3, mR_7, mG_7, mS_7, mR_8, mG_8, mS_8, mR_9, mG_9, mS_9, mR_10, mG_10, mS_10, mR_11, mG_11, mS_11, mR_12, mG_12, mS_12, mR_13, mG_13, mS_13, mR_14, mG_14, mS_14, mR_15, mG_15, mS_15, mR_16, mG_16, mS_16, mR_17, mG_17, mS_17, mR_18, mG_18, mS_18, mR_19, mG_19, mS_19, mR_24, mG_24, mS_24, mR_26, mG_26, mS_26, mK_8, gS_1, gS_2, gA_1, gA_2, Option.bind_some, Option.bind_none, hg, show ((0 : Int32) ≤ 0) = True by decide, if_true, f_M_line_b164, f_M_line_b172]
  rcases hx with e | e
  · subst e; simp only [if_true]; split <;> rfl
  · subst e; simp only [show ((1 : Int32) = 0) = False by decide, if_false]
theorem M_li (m : Nat) (h : Hs_t) (lvm cl : Int32) (lt : List Int32) (k : Nat) : ∀ (F : Nat) (g : Mg_t) (ls : List Ly_t) (s : Sr_t) (lv : Int32) (bag : List Int32), RW g ls s lv lvm cl bag lt → g.1 0 = 0 → iv_O ls s → ls.length ≤ 5 → (lv = 0 ∨ lv = 1) → bag.length + ph_N ls s ≤ 160 → ph_N ls s < k →
    match (li k ls s lv bag) with
    | (some c, ls1, s1, lv1, bag1) => ∃ g', f_M_line_b36 (F + k + 1) m 1 0 (MH m g h) = re_I c (MH m g' h) ∧ RW g' ls1 s1 lv1 lvm cl bag1 lt ∧ g'.1 0 = 0
    | (none, ls1, s1, lv1, bag1) => ∃ g', f_M_line_b36 (F + k + 1) m 1 0 (MH m g h) = re_I 0 (MH m g' h) ∧ RW g' ls1 s1 lv1 lvm cl bag1 lt ∧ g'.1 0 = 1 := by
  induction k with
  | zero => intro F g ls s lv bag hR hg0 hv hL hlv hp hk; omega
  | succ k ih =>
    intro F g ls s lv bag hR hg0 hv hL hlv hp hk
    have z0 : is_Z 0 = true := by decide
    have z1 : is_Z 1 = true := by decide
    rw [show F + (k + 1) + 1 = (F + k + 1) + 1 by omega, f_M_line_b36, if_neg (by decide)]
    simp only [li]
    have hK := rd_iv ls s lv 1 (by omega) hv hlv
    obtain ⟨g1, e1, e2, e3, e4⟩ := M_reads (m := m) (h := h) hR hv hL (n := 1) (by omega) (by omega)
    simp only [mI_0, mP_0, mI_4, mP_4, mI_5, mP_5, mI_6, mP_6, mI_20, mP_20, mI_21, mP_21, mI_22, mP_22, mI_23, mP_23, mI_25, mP_25, mI_27, mP_27, mR_1, mG_1, mS_1, mR_2, mG_2, mS_2, mR_3, mG_3, mS_3, mR_7, mG_7, mS_7, mR_8, mG_8, mS_8, mR_9, mG_9, mS_9, mR_10, mG_10, mS_10, mR_11, mG_11, mS_11, mR_12, mG_12, mS_12, mR_13, mG_13, mS_13, mR_14, mG_14, mS_14, mR_15, mG_15, mS_15, mR_16, mG_16, mS_16, mR_17, mG_17, mS_17, mR_18, mG_18, mS_18, mR_19, mG_19, mS_19, mR_24, mG_24, mS_24, mR_26, mG_26, mS_26, mK_8, gS_1, gS_2, gA_1, gA_2, Option.bind_some, Option.bind_none]
    rw [show f_M_reads m 1 (MH m g h) = _ from e1]
    generalize rd ls s lv 1 = z at *
    match z, hK, e2, e3 with
    | ((none, ls1, s1), lv1), hK, e2, e3 =>
      simp only [Option.isSome, Bool.false_eq_true, if_false, re_Z0, eq_self, if_true, if_false, ite_true, ite_false, bd_I, bd_V, bd_A, bd_L, re_I, re_V, Bool.true_and, Bool.and_true, reduceIte, reduceCtorEq, ↓reduceIte, Nat.reduceEqDiff, mI_0, mP_0, mI_4, mP_4, mI_5, mP_5, mI_6, mP_6, mI_20, mP_20, mI_21, mP_21, mI_22, mP_22, mI_23, mP_23, mI_25, mP_25, mI_27, mP_27, mR_1, mG_1, mS_1, mR_2, mG_2, mS_2, mR_3, mG_3, mS_3, mR_7, mG_7, mS_7, mR_8, mG_8, mS_8, mR_9, mG_9, mS_9, mR_10, mG_10, mS_10, mR_11, mG_11, mS_11, mR_12, mG_12, mS_12, mR_13, mG_13, mS_13, mR_14, mG_14, mS_14, mR_15, mG_15, mS_15, mR_16, mG_16, mS_16, mR_17, mG_17, mS_17, mR_18, mG_18, mS_18, mR_19, mG_19, mS_19, mR_24, mG_24, mS_24, mR_26, mG_26, mS_26, mK_8, gS_1, gS_2, gA_1, gA_2, Option.bind_some, Option.bind_none]
      exact ⟨_, rfl, e2.cd 1, rfl⟩
    | ((some [], ls1, s1), lv1), hK, e2, e3 =>
      have hA := e3 _ rfl
      have e22 : g1.1 22 = lv1 := e2.2.2.2.2.1
      have hz : is_Z lv1 = true := by rcases hK.2.2.1 with e | e <;> (have e : lv1 = _ := e; rw [e]; decide)
      have n1 : ((-1 : Int32) < 0) = True := by decide
      have n2 : ¬ ((-1 : Int32) = 13) := by decide
      simp only [Option.isSome, if_true, re_Z1, bd_I, show ((1 : Int32) = 0) = False by decide, if_false, hA.1, List.length_nil, show (ni 0 = 0) = True by decide, mI_0, mP_0, mI_4, mP_4, mI_5, mP_5, mI_6, mP_6, mI_20, mP_20, mI_21, mP_21, mI_22, mP_22, mI_23, mP_23, mI_25, mP_25, mI_27, mP_27, mR_1, mG_1, mS_1, mR_2, mG_2, mS_2, mR_3, mG_3, mS_3, mR_7, mG_7, mS_7, mR_8, mG_8, mS_8, mR_9, mG_9, mS_9, mR_10, mG_10, mS_10, mR_11, mG_11, mS_11, mR_12, mG_12, mS_12, mR_13, mG_13, mS_13, mR_14, mG_14, mS_14, mR_15, mG_15, mS_15, mR_16, mG_16, mS_16, mR_17, mG_17, mS_17, mR_18, mG_18, mS_18, mR_19, mG_19, mS_19, mR_24, mG_24, mS_24, mR_26, mG_26, mS_26, mK_8, gS_1, gS_2, gA_1, gA_2, Option.bind_some, Option.bind_none, f_M_line_b72, n1, f_M_line_b93, f_M_line_b94, f_M_line_b107, f_M_line_b108, f_M_line_b123, f_M_line_b128, f_M_line_b139, n2, e22, z0, z1]
      have hfin : ∀ x : Int32, x = lv1 → ∃ g', f_M_line_b36 (F + k + 1) m 0 0 (MH m (gS g1 22 x) h) = re_I (if bag = [] then -1 else ni bag.length) (MH m g' h) ∧ RW g' ls1 s1 lv1 lvm cl bag lt ∧ g'.1 0 = 0 := by
        intro x hx
        subst hx
        rw [M_li0 m h _ 0 _ (by simp only [gS_1]; rw [if_neg (by omega), e4, hg0]) (Or.inl rfl)]
        have e25 : (gS g1 22 x).1 25 = ni bag.length := e2.2.2.2.2.2.2.1
        simp only [e25, if_true]
        refine ⟨_, ?_, e2.lv x, by simp only [gS_1]; rw [if_neg (by omega), e4, hg0]⟩
        cases bag with
        | nil => rfl
        | cons y bag => rw [if_neg (show ¬ ni (y :: bag).length ≤ 0 from niNL (b := 0) (by omega) (by omega) (by simp)), if_neg (by simp)]
      rcases hK.2.2.1 with e | e
      · have e : lv1 = 0 := e
        simp only [e, if_true]
        rw [e] at hfin
        exact hfin 0 rfl
      · have e : lv1 = 1 := e
        simp only [e, show ((1 : Int32) = 0) = False by decide, if_false]
        rw [e] at hfin
        exact hfin 1 rfl
    | ((some (x :: bs), ls1, s1), lv1), hK, e2, e3 =>
      have hA := e3 _ rfl
      have e22 : g1.1 22 = lv1 := e2.2.2.2.2.1
      have h1' := hK.2.2.2.2 _ rfl
      have h2' := h1'.1
      have h3' := h1'.2.2.1
      have hlv1 : lv1 = 0 := h1'.2.2.2 (by simp)
      simp only [List.length_cons] at h2' h3'
      have hbs : bs = [] := by cases bs with | nil => rfl | cons y bs => simp at h2'
      subst hbs
      have hA1 : g1.1 20 = ni 1 := hA.1
      have hx : g1.2 19 0 = x := by
        have := hA.2
        simp only [List.length_cons, List.length_nil, sl, List.cons.injEq] at this
        exact this.1
      have hxb := h1'.2.1 x (by simp)
      have hx0 : ¬ x < 0 := by obtain ⟨q, q1, rfl⟩ := hxb; exact ni_nn (by omega)
      simp only [Option.isSome, if_true, re_Z1, bd_I, show ((1 : Int32) = 0) = False by decide, if_false, hA1, show (ni 1 = 0) = False by decide, mI_0, mP_0, mI_4, mP_4, mI_5, mP_5, mI_6, mP_6, mI_20, mP_20, mI_21, mP_21, mI_22, mP_22, mI_23, mP_23, mI_25, mP_25, mI_27, mP_27, mR_1, mG_1, mS_1, mR_2, mG_2, mS_2, mR_3, mG_3, mS_3, mR_7, mG_7, mS_7, mR_8, mG_8, mS_8, mR_9, mG_9, mS_9, mR_10, mG_10, mS_10, mR_11, mG_11, mS_11, mR_12, mG_12, mS_12, mR_13, mG_13, mS_13, mR_14, mG_14, mS_14, mR_15, mG_15, mS_15, mR_16, mG_16, mS_16, mR_17, mG_17, mS_17, mR_18, mG_18, mS_18, mR_19, mG_19, mS_19, mR_24, mG_24, mS_24, mR_26, mG_26, mS_26, mK_8, gS_1, gS_2, gA_1, gA_2, Option.bind_some, Option.bind_none, show in_R 0 120 = true by decide, show (0 : Int32).toNatClampNeg = 0 by decide, hx, f_M_line_b72, hx0, f_M_line_b93, f_M_line_b94, f_M_line_b107, f_M_line_b108, f_M_line_b123, f_M_line_b128, f_M_line_b139, e22, hlv1, z0, z1]
      have hend : ∀ y : Int32, f_M_line_b36 (F + k + 1) m 0 1 (MH m (gS g1 22 y) h) = re_I (ni bag.length) (MH m (gS g1 22 y) h) := by
        intro y
        rw [M_li0 m h _ 1 _ (by simp only [gS_1]; rw [if_neg (by omega), e4, hg0]) (Or.inr rfl)]
        have e25 : (gS g1 22 y).1 25 = ni bag.length := e2.2.2.2.2.2.2.1
        rw [if_neg (by decide), e25]
      have hc0 : ∀ y : Int32, (gS g1 22 y).1 0 = 0 := fun y => by simp only [gS_1]; rw [if_neg (by omega), e4, hg0]
      by_cases b10 : x = 10
      · have n13 : ¬ ((10 : Int32) = 13) := by decide
        simp only [b10, if_true, n13, if_false, true_or, hend]
        exact ⟨_, rfl, e2.lv 0, hc0 0⟩
      · by_cases b13 : x = 13
        · have n10 : ¬ ((13 : Int32) = 10) := by decide
          simp only [b13, if_true, n10, if_false, or_true, hend]
          exact ⟨_, rfl, e2.lv 1, hc0 1⟩
        · simp only [b10, b13, if_false, or_self]
          have hA2 : AN (gS g1 22 0) [x] := ⟨hA.1, hA.2⟩
          have hR2 : RW (gS g1 22 0) ls1 s1 0 lvm cl bag lt := e2.lv 0
          obtain ⟨g2, p1, p2, p3, p4⟩ := M_putBag (m := m) (h := h) hR2 hA2 (by simp) (by simp only [List.length_cons, List.length_nil]; omega)
          simp only [p1]
          rw [hlv1] at hK
          exact ih F g2 ls1 s1 0 (bag ++ [x]) p2 (by rw [p4]; exact hc0 0) hK.1 (by rw [hK.2.1]; exact hL) (Or.inl rfl) (by simp only [List.length_append, List.length_cons, List.length_nil]; omega) (by omega)
def op_line (w : Wd_t) : (Option Value ⊕ Nat) × Wd_t := match w with
  | (ls, s, lv, lvm, cl, _, lt) => if cl = 0 then (match li 161 ls s lv [] with
    | (some c, ls1, s1, lv1, bag1) => (.inl (some (.int c)), (ls1, s1, lv1, lvm, cl, bag1, lt))
    | (none, ls1, s1, lv1, bag1) => (.inr 10, (ls1, s1, lv1, lvm, cl, bag1, lt))) else (.inr 10, (ls, s, lv, lvm, cl, [], lt))
theorem T_line {b : Nat} {as : List Nat} {h : Hs_t} {w : Wd_t} (hT : RTw b as h w) (hv : wv_O w) : TR b h (f_T_line b h) (op_line w).1 (op_line w).2 := by
  obtain ⟨ls, s, lv, lvm, cl, bag, lt⟩ := w
  have hT : RT b as h ls s lv lvm cl bag lt := hT
  obtain ⟨v1, v2, v3, v4, v5, v6, v7, v8⟩ := hv
  have hp := ph_160 v1 v2
  rw [f_T_line, ck_0 hT, Option.bind_some]
  simp only [op_line]
  by_cases hc : cl = 0
  · obtain ⟨h1, e1, e2, e3⟩ := (T_start hT _).1 hc
    rw [e1, if_pos hc]
    have := T_li b lvm cl lt h 161 0 (fu_N - 162) h1 as ls s lv [] e2 e3 v1 v2 v3 (by simp only [List.length_nil]; dsimp only at hp; omega) rfl
    rw [show fu_N - 162 + 161 + 1 = fu_N from rfl] at this
    generalize li 161 ls s lv [] = z at *
    match z, this with
    | (some c, ls1, s1, lv1, bag1), this =>
      obtain ⟨h2, q1, q2, q3⟩ := this
      exact ⟨h2, as, q1, q2, q3⟩
    | (none, ls1, s1, lv1, bag1), this => exact this
  · rw [if_neg hc]
    exact (T_start hT _).2 hc
theorem M_line {m : Nat} {h : Hs_t} {g : Mg_t} {w : Wd_t} (hR : RWw g w) (hv : wv_O w) : MO m h (f_M_line m (MH m g h)) (op_line w).1 (fun _ => 1) (some (.int 0)) (op_line w).2 := by
  obtain ⟨ls, s, lv, lvm, cl, bag, lt⟩ := w
  have hR : RW g ls s lv lvm cl bag lt := hR
  obtain ⟨v1, v2, v3, v4, v5, v6, v7, v8⟩ := hv
  have hp := ph_160 v1 v2
  have e21 : g.1 21 = cl := hR.2.2.2.1
  have hR0 := hR.clr
  rw [f_M_line]
  simp only [mI_0, mP_0, mI_4, mP_4, mI_5, mP_5, mI_6, mP_6, mI_20, mP_20, mI_21, mP_21, mI_22, mP_22, mI_23, mP_23, mI_25, mP_25, mI_27, mP_27, mR_1, mG_1, mS_1, mR_2, mG_2, mS_2, mR_3, mG_3, mS_3, mR_7, mG_7, mS_7, mR_8, mG_8, mS_8, mR_9, mG_9, mS_9, mR_10, mG_10, mS_10, mR_11, mG_11, mS_11, mR_12, mG_12, mS_12, mR_13, mG_13, mS_13, mR_14, mG_14, mS_14, mR_15, mG_15, mS_15, mR_16, mG_16, mS_16, mR_17, mG_17, mS_17, mR_18, mG_18, mS_18, mR_19, mG_19, mS_19, mR_24, mG_24, mS_24, mR_26, mG_26, mS_26, mK_8, gS_1, gS_2, gA_1, gA_2, Option.bind_some, Option.bind_none, eq_self, if_true, if_false, ite_true, ite_false, bd_I, bd_V, bd_A, bd_L, re_I, re_V, Bool.true_and, Bool.and_true, reduceIte, reduceCtorEq, ↓reduceIte, Nat.reduceEqDiff, e21, op_line, f_M_line_b18, f_M_line_b33, show ((1 : Int32) = 0) = False by decide]
  by_cases hc : cl = 0
  · simp only [hc, if_true]
    subst hc
    have := M_li m h lvm 0 lt 161 (fu_N - 162) (gS (gS g 25 0) 0 0) ls s lv [] (hR0.cd 0) rfl v1 v2 v3 (by simp only [List.length_nil]; dsimp only at hp; omega) (by dsimp only at hp; omega)
    rw [show fu_N - 162 + 161 + 1 = fu_N from rfl] at this
    generalize f_M_line_b36 fu_N m 1 0 (MH m (gS (gS g 25 0) 0 0) h) = FF at *
    generalize li 161 ls s lv [] = z at *
    match z, this with
    | (some c, ls1, s1, lv1, bag1), this =>
      obtain ⟨g1, q1, q2, q3⟩ := this
      exact ⟨g1, q1, q2, q3⟩
    | (none, ls1, s1, lv1, bag1), this =>
      obtain ⟨g1, q1, q2, q3⟩ := this
      exact ⟨g1, q1, q2, q3⟩
  · simp only [hc, if_false]
    rw [show fu_N = 1999 + 1 from rfl, f_M_line_b36, if_pos rfl]
    simp only [mI_0, mP_0, mI_4, mP_4, mI_5, mP_5, mI_6, mP_6, mI_20, mP_20, mI_21, mP_21, mI_22, mP_22, mI_23, mP_23, mI_25, mP_25, mI_27, mP_27, mR_1, mG_1, mS_1, mR_2, mG_2, mS_2, mR_3, mG_3, mS_3, mR_7, mG_7, mS_7, mR_8, mG_8, mS_8, mR_9, mG_9, mS_9, mR_10, mG_10, mS_10, mR_11, mG_11, mS_11, mR_12, mG_12, mS_12, mR_13, mG_13, mS_13, mR_14, mG_14, mS_14, mR_15, mG_15, mS_15, mR_16, mG_16, mS_16, mR_17, mG_17, mS_17, mR_18, mG_18, mS_18, mR_19, mG_19, mS_19, mR_24, mG_24, mS_24, mR_26, mG_26, mS_26, mK_8, gS_1, gS_2, gA_1, gA_2, Option.bind_some, Option.bind_none, eq_self, if_true, if_false, ite_true, ite_false, bd_I, bd_V, bd_A, bd_L, re_I, re_V, Bool.true_and, Bool.and_true, reduceIte, reduceCtorEq, ↓reduceIte, Nat.reduceEqDiff, show ¬ ((1 : Int32) ≤ 0) by decide, f_M_line_b172]
    exact ⟨_, rfl, hR0.cd 1, rfl⟩
