/-- a layer that answers by itself -/
def an_L (L : Ly_t) (n : Nat) : Option (List Int32 × Ly_t) := match L with
  | .inl (rm, kp, t :: tg, mq) => some ((t :: tg).take n, gv_B rm kp (t :: tg) mq n)
  | .inr (.inl (rm, b :: st)) => some ((b :: st).take n, ly_P rm ((b :: st).drop n))
  | .inr (.inr (.inl (0, lm))) => some ([], ly_M 0 lm)
  | _ => none
def tr_L (L : Ly_t) (n : Nat) : Int32 := match L with
  | .inl (rm, _, _, none) => if rm ≤ n then 1 else 0
  | .inl (_, _, _, some _) => 0
  | _ => 1
/-- what it asks of the one below -/
def be_L (L : Ly_t) (n : Nat) : Nat := match L with
  | .inl (rm, _, _, none) => if rm ≤ n then n else rm
  | .inl (rm, _, _, some _) => rm
  | .inr (.inr (.inl (lf, _))) => min n lf
  | _ => n
/-- what it makes of the bytes from below -/
def ps_L (L : Ly_t) (n : Nat) (bs : List Int32) : List Int32 × Ly_t := match L with
  | .inl (rm, kp, tg, mq) => if tr_L (ly_B rm kp tg mq) n = 1 then (bs, L) else match bs with
    | [] => ([], L)
    | b :: bs => ((b :: bs).take n, gv_B rm kp (b :: bs) mq n)
  | .inr (.inl (rm, st)) => (bs, L)
  | .inr (.inr (.inl (lf, lm))) => (bs, ly_M (lf - bs.length) lm)
  | .inr (.inr (.inr (.inl (key, cd, cm)))) => (cd_N key cd bs, ly_C key (cd + ni bs.length) cm)
  | .inr (.inr (.inr (.inr (e, em, cr, crm)))) => (bs, ly_N (bs.foldl ln_1 (e, cr)).1 em (bs.foldl ln_1 (e, cr)).2 crm)
theorem rq_cons (L : Ly_t) (ls : List Ly_t) (n : Nat) (s : Sr_t) : rq (L :: ls) n s = match an_L L n with
    | some p => (some p.1, p.2 :: ls, s)
    | none => match rq ls (be_L L n) s with
      | (none, ls1, s1) => (none, L :: ls1, s1)
      | (some bs, ls1, s1) => (some (ps_L L n bs).1, (ps_L L n bs).2 :: ls1, s1) := by
  match L with
  | .inl (rm, kp, [], none) =>
    simp only [rq, an_L, be_L, ps_L, tr_L]
    by_cases hb : rm ≤ n
    · simp only [hb, and_self, if_true]
      generalize rq ls n s = r
      obtain ⟨r, ls1, s1⟩ := r
      cases r <;> rfl
    · simp only [hb, false_and, if_false]
      generalize rq ls rm s = r
      obtain ⟨r, ls1, s1⟩ := r
      match r with
      | none => rfl
      | some [] => rfl
      | some (b :: bs) => rfl
  | .inl (rm, kp, [], some b) =>
    simp only [rq, an_L, be_L, ps_L, tr_L]
    simp only [reduceCtorEq, and_false, if_false]
    generalize rq ls rm s = r
    obtain ⟨r, ls1, s1⟩ := r
    match r with
    | none => rfl
    | some [] => rfl
    | some (b :: bs) => rfl
  | .inl (rm, kp, t :: tg, mq) => simp only [rq, an_L]
  | .inr (.inl (rm, [])) =>
    simp only [rq, an_L, be_L, ps_L]
    generalize rq ls n s = r
    obtain ⟨r, ls1, s1⟩ := r
    cases r <;> rfl
  | .inr (.inl (rm, b :: st)) => simp only [rq, an_L]
  | .inr (.inr (.inl (0, lm))) => simp only [rq, an_L, if_true]
  | .inr (.inr (.inl (lf + 1, lm))) =>
    simp only [rq, an_L, be_L, ps_L, if_neg (show ¬ lf + 1 = 0 by omega)]
    generalize rq ls (min n (lf + 1)) s = r
    obtain ⟨r, ls1, s1⟩ := r
    cases r <;> rfl
  | .inr (.inr (.inr (.inl (key, cd, cm)))) =>
    simp only [rq, an_L, be_L, ps_L]
    generalize rq ls n s = r
    obtain ⟨r, ls1, s1⟩ := r
    cases r <;> rfl
  | .inr (.inr (.inr (.inr (e, em, cr, crm)))) =>
    simp only [rq, an_L, be_L, ps_L]
    generalize rq ls n s = r
    obtain ⟨r, ls1, s1⟩ := r
    cases r <;> rfl
theorem be_1 {L : Ly_t} {n : Nat} (hO : ly_O L) (hn : 1 ≤ n) (ha : an_L L n = none) : 1 ≤ be_L L n := by
  match L, hO, ha with
  | .inl (rm, kp, tg, none), hO, ha => simp only [be_L]; split; exact hn; exact hO.1
  | .inl (rm, kp, tg, some _), hO, ha => exact hO.1
  | .inr (.inl _), hO, ha => exact hn
  | .inr (.inr (.inl (0, lm))), hO, ha => simp [an_L] at ha
  | .inr (.inr (.inl (lf + 1, lm))), hO, ha => simp only [be_L]; omega
  | .inr (.inr (.inr (.inl _))), hO, ha => exact hn
  | .inr (.inr (.inr (.inr _))), hO, ha => exact hn
theorem be_le {L : Ly_t} {n : Nat} (hO : ly_O L) (hn : n ≤ 120) : be_L L n ≤ 120 := by
  match L, hO with
  | .inl (rm, kp, tg, none), hO => simp only [be_L]; have := hO.2.1; split <;> omega
  | .inl (rm, kp, tg, some _), hO => have := hO.2.1; simp only [be_L]; omega
  | .inr (.inl _), hO => exact hn
  | .inr (.inr (.inl (lf, lm))), hO => simp only [be_L]; omega
  | .inr (.inr (.inr (.inl _))), hO => exact hn
  | .inr (.inr (.inr (.inr _))), hO => exact hn
theorem M_through (m : Nat) (h : Hs_t) (l n : Nat) (hl : l < 5) (hn : n ≤ 120) (g : Mg_t) (L : Ly_t) (hO : ly_O L) (hg : RLm g l L) (ha : g.2 18 l = ni n) : f_M_through m (ni l) (MH m g h) = re_Z (tr_L L n) (MH m g h) := by
  have h1 : in_R (ni l) 5 = true := ni_in_t (by omega) hl
  have h2 : (ni l).toNatClampNeg = l := ni_nat (by omega)
  rw [f_M_through]
  match L, hO, hg with
  | .inl (rm, kp, tg, none), hO, hg =>
    obtain ⟨a1, a2, a3, a4, a5, a6, a7⟩ := hg
    have := hO.2.1
    simp only [mI_0, mP_0, mI_4, mP_4, mI_5, mP_5, mI_6, mP_6, mI_20, mP_20, mI_21, mP_21, mI_22, mP_22, mI_23, mP_23, mI_25, mP_25, mI_27, mP_27, mR_1, mG_1, mS_1, mR_2, mG_2, mS_2, mR_3, mG_3, mS_3, mR_7, mG_7, mS_7, mR_8, mG_8, mS_8, mR_9, mG_9, mS_9, mR_10, mG_10, mS_10, mR_11, mG_11, mS_11, mR_12, mG_12, mS_12, mR_13, mG_13, mS_13, mR_14, mG_14, mS_14, mR_15, mG_15, mS_15, mR_16, mG_16, mS_16, mR_17, mG_17, mS_17, mR_18, mG_18, mS_18, mR_19, mG_19, mS_19, mR_24, mG_24, mS_24, mR_26, mG_26, mS_26, mK_8, gS_1, gS_2, gA_1, gA_2, Option.bind_some, Option.bind_none, h1, h2, eq_self, if_true, if_false, ite_true, ite_false, bd_I, bd_V, bd_A, bd_L, re_I, re_V, Bool.true_and, Bool.and_true, reduceIte, reduceCtorEq, ↓reduceIte, Nat.reduceEqDiff, a1, a2, ha, tr_L, a7]
    by_cases hb : rm ≤ n
    · rw [if_neg (niNT (by omega) (by omega) hb), if_pos hb]; rfl
    · rw [if_pos (niT (by omega) (by omega) (by omega)), if_neg hb]; rfl
  | .inl (rm, kp, tg, some b), hO, hg =>
    obtain ⟨a1, a2, a3, a4, a5, a6, a7, a8⟩ := hg
    simp only [mI_0, mP_0, mI_4, mP_4, mI_5, mP_5, mI_6, mP_6, mI_20, mP_20, mI_21, mP_21, mI_22, mP_22, mI_23, mP_23, mI_25, mP_25, mI_27, mP_27, mR_1, mG_1, mS_1, mR_2, mG_2, mS_2, mR_3, mG_3, mS_3, mR_7, mG_7, mS_7, mR_8, mG_8, mS_8, mR_9, mG_9, mS_9, mR_10, mG_10, mS_10, mR_11, mG_11, mS_11, mR_12, mG_12, mS_12, mR_13, mG_13, mS_13, mR_14, mG_14, mS_14, mR_15, mG_15, mS_15, mR_16, mG_16, mS_16, mR_17, mG_17, mS_17, mR_18, mG_18, mS_18, mR_19, mG_19, mS_19, mR_24, mG_24, mS_24, mR_26, mG_26, mS_26, mK_8, gS_1, gS_2, gA_1, gA_2, Option.bind_some, Option.bind_none, h1, h2, eq_self, if_true, if_false, ite_true, ite_false, bd_I, bd_V, bd_A, bd_L, re_I, re_V, Bool.true_and, Bool.and_true, reduceIte, reduceCtorEq, ↓reduceIte, Nat.reduceEqDiff, a1, a2, ha, tr_L, a7, show ((1 : Int32) = 0) = False by simp]
    split <;> rfl
  | .inr (.inl (rm, st)), hO, hg => simp only [mI_0, mP_0, mI_4, mP_4, mI_5, mP_5, mI_6, mP_6, mI_20, mP_20, mI_21, mP_21, mI_22, mP_22, mI_23, mP_23, mI_25, mP_25, mI_27, mP_27, mR_1, mG_1, mS_1, mR_2, mG_2, mS_2, mR_3, mG_3, mS_3, mR_7, mG_7, mS_7, mR_8, mG_8, mS_8, mR_9, mG_9, mS_9, mR_10, mG_10, mS_10, mR_11, mG_11, mS_11, mR_12, mG_12, mS_12, mR_13, mG_13, mS_13, mR_14, mG_14, mS_14, mR_15, mG_15, mS_15, mR_16, mG_16, mS_16, mR_17, mG_17, mS_17, mR_18, mG_18, mS_18, mR_19, mG_19, mS_19, mR_24, mG_24, mS_24, mR_26, mG_26, mS_26, mK_8, gS_1, gS_2, gA_1, gA_2, Option.bind_some, Option.bind_none, h1, h2, eq_self, if_true, if_false, ite_true, ite_false, bd_I, bd_V, bd_A, bd_L, re_I, re_V, Bool.true_and, Bool.and_true, reduceIte, reduceCtorEq, ↓reduceIte, Nat.reduceEqDiff, hg.1, tr_L, show ((2 : Int32) = 1) = False by decide]; rfl
  | .inr (.inr (.inl (lf, lm))), hO, hg => simp only [mI_0, mP_0, mI_4, mP_4, mI_5, mP_5, mI_6, mP_6, mI_20, mP_20, mI_21, mP_21, mI_22, mP_22, mI_23, mP_23, mI_25, mP_25, mI_27, mP_27, mR_1, mG_1, mS_1, mR_2, mG_2, mS_2, mR_3, mG_3, mS_3, mR_7, mG_7, mS_7, mR_8, mG_8, mS_8, mR_9, mG_9, mS_9, mR_10, mG_10, mS_10, mR_11, mG_11, mS_11, mR_12, mG_12, mS_12, mR_13, mG_13, mS_13, mR_14, mG_14, mS_14, mR_15, mG_15, mS_15, mR_16, mG_16, mS_16, mR_17, mG_17, mS_17, mR_18, mG_18, mS_18, mR_19, mG_19, mS_19, mR_24, mG_24, mS_24, mR_26, mG_26, mS_26, mK_8, gS_1, gS_2, gA_1, gA_2, Option.bind_some, Option.bind_none, h1, h2, eq_self, if_true, if_false, ite_true, ite_false, bd_I, bd_V, bd_A, bd_L, re_I, re_V, Bool.true_and, Bool.and_true, reduceIte, reduceCtorEq, ↓reduceIte, Nat.reduceEqDiff, hg.1, tr_L, show ((3 : Int32) = 1) = False by decide]; rfl
  | .inr (.inr (.inr (.inl (key, cd, cm)))), hO, hg => simp only [mI_0, mP_0, mI_4, mP_4, mI_5, mP_5, mI_6, mP_6, mI_20, mP_20, mI_21, mP_21, mI_22, mP_22, mI_23, mP_23, mI_25, mP_25, mI_27, mP_27, mR_1, mG_1, mS_1, mR_2, mG_2, mS_2, mR_3, mG_3, mS_3, mR_7, mG_7, mS_7, mR_8, mG_8, mS_8, mR_9, mG_9, mS_9, mR_10, mG_10, mS_10, mR_11, mG_11, mS_11, mR_12, mG_12, mS_12, mR_13, mG_13, mS_13, mR_14, mG_14, mS_14, mR_15, mG_15, mS_15, mR_16, mG_16, mS_16, mR_17, mG_17, mS_17, mR_18, mG_18, mS_18, mR_19, mG_19, mS_19, mR_24, mG_24, mS_24, mR_26, mG_26, mS_26, mK_8, gS_1, gS_2, gA_1, gA_2, Option.bind_some, Option.bind_none, h1, h2, eq_self, if_true, if_false, ite_true, ite_false, bd_I, bd_V, bd_A, bd_L, re_I, re_V, Bool.true_and, Bool.and_true, reduceIte, reduceCtorEq, ↓reduceIte, Nat.reduceEqDiff, hg.1, tr_L, show ((4 : Int32) = 1) = False by decide]; rfl
  | .inr (.inr (.inr (.inr (e, em, cr, crm)))), hO, hg => simp only [mI_0, mP_0, mI_4, mP_4, mI_5, mP_5, mI_6, mP_6, mI_20, mP_20, mI_21, mP_21, mI_22, mP_22, mI_23, mP_23, mI_25, mP_25, mI_27, mP_27, mR_1, mG_1, mS_1, mR_2, mG_2, mS_2, mR_3, mG_3, mS_3, mR_7, mG_7, mS_7, mR_8, mG_8, mS_8, mR_9, mG_9, mS_9, mR_10, mG_10, mS_10, mR_11, mG_11, mS_11, mR_12, mG_12, mS_12, mR_13, mG_13, mS_13, mR_14, mG_14, mS_14, mR_15, mG_15, mS_15, mR_16, mG_16, mS_16, mR_17, mG_17, mS_17, mR_18, mG_18, mS_18, mR_19, mG_19, mS_19, mR_24, mG_24, mS_24, mR_26, mG_26, mS_26, mK_8, gS_1, gS_2, gA_1, gA_2, Option.bind_some, Option.bind_none, h1, h2, eq_self, if_true, if_false, ite_true, ite_false, bd_I, bd_V, bd_A, bd_L, re_I, re_V, Bool.true_and, Bool.and_true, reduceIte, reduceCtorEq, ↓reduceIte, Nat.reduceEqDiff, hg.1, tr_L, show ((5 : Int32) = 1) = False by decide]; rfl
theorem re_Z1 (h : Hs_t) : re_Z 1 h = some (.returned (some (.int 1)), h) := rfl
theorem re_Z0 (h : Hs_t) : re_Z 0 h = some (.returned (some (.int 0)), h) := rfl
theorem tr_01 (L : Ly_t) (n : Nat) : tr_L L n = 0 ∨ tr_L L n = 1 := by
  unfold tr_L; split
  · split; exact Or.inr rfl; exact Or.inl rfl
  · exact Or.inl rfl
  · exact Or.inr rfl
theorem re_Zt (L : Ly_t) (n : Nat) (h : Hs_t) : re_Z (tr_L L n) h = some (.returned (some (.int (tr_L L n))), h) := by
  rcases tr_01 L n with e | e <;> rw [e] <;> rfl
theorem M_below (m : Nat) (h : Hs_t) (l n : Nat) (hl : l < 5) (hn : n ≤ 120) (g : Mg_t) (L : Ly_t) (hO : ly_O L) (hg : RLm g l L) (ha : g.2 18 l = ni n) : f_M_below m (ni l) (MH m g h) = re_I (ni (be_L L n)) (MH m g h) := by
  have h1 : in_R (ni l) 5 = true := ni_in_t (by omega) hl
  have h2 : (ni l).toNatClampNeg = l := ni_nat (by omega)
  have ht := M_through m h l n hl hn g L hO hg ha
  have e36 : f_M_below_b36 m (ni l) (ni n) (MH m g h) = if tr_L L n = 0 then f_M_below_b54 (g.2 8 l) (MH m g h) else f_M_below_b54 (ni n) (MH m g h) := by
    rw [f_M_below_b36, ht, re_Zt]
    simp only [mI_0, mP_0, mI_4, mP_4, mI_5, mP_5, mI_6, mP_6, mI_20, mP_20, mI_21, mP_21, mI_22, mP_22, mI_23, mP_23, mI_25, mP_25, mI_27, mP_27, mR_1, mG_1, mS_1, mR_2, mG_2, mS_2, mR_3, mG_3, mS_3, mR_7, mG_7, mS_7, mR_8, mG_8, mS_8, mR_9, mG_9, mS_9, mR_10, mG_10, mS_10, mR_11, mG_11, mS_11, mR_12, mG_12, mS_12, mR_13, mG_13, mS_13, mR_14, mG_14, mS_14, mR_15, mG_15, mS_15, mR_16, mG_16, mS_16, mR_17, mG_17, mS_17, mR_18, mG_18, mS_18, mR_19, mG_19, mS_19, mR_24, mG_24, mS_24, mR_26, mG_26, mS_26, mK_8, gS_1, gS_2, gA_1, gA_2, Option.bind_some, Option.bind_none, h1, h2, eq_self, if_true, if_false, ite_true, ite_false, bd_I, bd_V, bd_A, bd_L, re_I, re_V, Bool.true_and, Bool.and_true, reduceIte, reduceCtorEq, ↓reduceIte, Nat.reduceEqDiff]
  rw [f_M_below]
  match L, hO, hg with
  | .inl (rm, kp, tg, none), hO, hg =>
    simp only [mI_0, mP_0, mI_4, mP_4, mI_5, mP_5, mI_6, mP_6, mI_20, mP_20, mI_21, mP_21, mI_22, mP_22, mI_23, mP_23, mI_25, mP_25, mI_27, mP_27, mR_1, mG_1, mS_1, mR_2, mG_2, mS_2, mR_3, mG_3, mS_3, mR_7, mG_7, mS_7, mR_8, mG_8, mS_8, mR_9, mG_9, mS_9, mR_10, mG_10, mS_10, mR_11, mG_11, mS_11, mR_12, mG_12, mS_12, mR_13, mG_13, mS_13, mR_14, mG_14, mS_14, mR_15, mG_15, mS_15, mR_16, mG_16, mS_16, mR_17, mG_17, mS_17, mR_18, mG_18, mS_18, mR_19, mG_19, mS_19, mR_24, mG_24, mS_24, mR_26, mG_26, mS_26, mK_8, gS_1, gS_2, gA_1, gA_2, Option.bind_some, Option.bind_none, h1, h2, eq_self, if_true, if_false, ite_true, ite_false, bd_I, bd_V, bd_A, bd_L, re_I, re_V, Bool.true_and, Bool.and_true, reduceIte, reduceCtorEq, ↓reduceIte, Nat.reduceEqDiff, hg.1, ha, show ((1 : Int32) = 3) = False by decide, e36, hg.2.1, tr_L, be_L]
    by_cases hb : rm ≤ n
    · simp only [if_pos hb, show ((1 : Int32) = 0) = False by decide, if_false]; rfl
    · simp only [if_neg hb, if_true]; rfl
  | .inl (rm, kp, tg, some b), hO, hg =>
    simp only [mI_0, mP_0, mI_4, mP_4, mI_5, mP_5, mI_6, mP_6, mI_20, mP_20, mI_21, mP_21, mI_22, mP_22, mI_23, mP_23, mI_25, mP_25, mI_27, mP_27, mR_1, mG_1, mS_1, mR_2, mG_2, mS_2, mR_3, mG_3, mS_3, mR_7, mG_7, mS_7, mR_8, mG_8, mS_8, mR_9, mG_9, mS_9, mR_10, mG_10, mS_10, mR_11, mG_11, mS_11, mR_12, mG_12, mS_12, mR_13, mG_13, mS_13, mR_14, mG_14, mS_14, mR_15, mG_15, mS_15, mR_16, mG_16, mS_16, mR_17, mG_17, mS_17, mR_18, mG_18, mS_18, mR_19, mG_19, mS_19, mR_24, mG_24, mS_24, mR_26, mG_26, mS_26, mK_8, gS_1, gS_2, gA_1, gA_2, Option.bind_some, Option.bind_none, h1, h2, eq_self, if_true, if_false, ite_true, ite_false, bd_I, bd_V, bd_A, bd_L, re_I, re_V, Bool.true_and, Bool.and_true, reduceIte, reduceCtorEq, ↓reduceIte, Nat.reduceEqDiff, hg.1, ha, show ((1 : Int32) = 3) = False by decide, e36, hg.2.1, tr_L, be_L]; rfl
  | .inr (.inl (rm, st)), hO, hg =>
    simp only [mI_0, mP_0, mI_4, mP_4, mI_5, mP_5, mI_6, mP_6, mI_20, mP_20, mI_21, mP_21, mI_22, mP_22, mI_23, mP_23, mI_25, mP_25, mI_27, mP_27, mR_1, mG_1, mS_1, mR_2, mG_2, mS_2, mR_3, mG_3, mS_3, mR_7, mG_7, mS_7, mR_8, mG_8, mS_8, mR_9, mG_9, mS_9, mR_10, mG_10, mS_10, mR_11, mG_11, mS_11, mR_12, mG_12, mS_12, mR_13, mG_13, mS_13, mR_14, mG_14, mS_14, mR_15, mG_15, mS_15, mR_16, mG_16, mS_16, mR_17, mG_17, mS_17, mR_18, mG_18, mS_18, mR_19, mG_19, mS_19, mR_24, mG_24, mS_24, mR_26, mG_26, mS_26, mK_8, gS_1, gS_2, gA_1, gA_2, Option.bind_some, Option.bind_none, h1, h2, eq_self, if_true, if_false, ite_true, ite_false, bd_I, bd_V, bd_A, bd_L, re_I, re_V, Bool.true_and, Bool.and_true, reduceIte, reduceCtorEq, ↓reduceIte, Nat.reduceEqDiff, hg.1, ha, show ((2 : Int32) = 3) = False by decide, e36, tr_L, be_L, show ((1 : Int32) = 0) = False by decide]; rfl
  | .inr (.inr (.inl (lf, lm))), hO, hg =>
    have := hO.1
    simp only [mI_0, mP_0, mI_4, mP_4, mI_5, mP_5, mI_6, mP_6, mI_20, mP_20, mI_21, mP_21, mI_22, mP_22, mI_23, mP_23, mI_25, mP_25, mI_27, mP_27, mR_1, mG_1, mS_1, mR_2, mG_2, mS_2, mR_3, mG_3, mS_3, mR_7, mG_7, mS_7, mR_8, mG_8, mS_8, mR_9, mG_9, mS_9, mR_10, mG_10, mS_10, mR_11, mG_11, mS_11, mR_12, mG_12, mS_12, mR_13, mG_13, mS_13, mR_14, mG_14, mS_14, mR_15, mG_15, mS_15, mR_16, mG_16, mS_16, mR_17, mG_17, mS_17, mR_18, mG_18, mS_18, mR_19, mG_19, mS_19, mR_24, mG_24, mS_24, mR_26, mG_26, mS_26, mK_8, gS_1, gS_2, gA_1, gA_2, Option.bind_some, Option.bind_none, h1, h2, eq_self, if_true, if_false, ite_true, ite_false, bd_I, bd_V, bd_A, bd_L, re_I, re_V, Bool.true_and, Bool.and_true, reduceIte, reduceCtorEq, ↓reduceIte, Nat.reduceEqDiff, hg.1, ha, e36, tr_L, be_L, hg.2.1, show ((1 : Int32) = 0) = False by decide]
    by_cases hb : n ≤ lf
    · rw [if_pos (niL (by omega) (by omega) hb), show min n lf = n by omega]; rfl
    · rw [if_neg (niNL (by omega) (by omega) (by omega)), show min n lf = lf by omega]; rfl
  | .inr (.inr (.inr (.inl (key, cd, cm)))), hO, hg =>
    simp only [mI_0, mP_0, mI_4, mP_4, mI_5, mP_5, mI_6, mP_6, mI_20, mP_20, mI_21, mP_21, mI_22, mP_22, mI_23, mP_23, mI_25, mP_25, mI_27, mP_27, mR_1, mG_1, mS_1, mR_2, mG_2, mS_2, mR_3, mG_3, mS_3, mR_7, mG_7, mS_7, mR_8, mG_8, mS_8, mR_9, mG_9, mS_9, mR_10, mG_10, mS_10, mR_11, mG_11, mS_11, mR_12, mG_12, mS_12, mR_13, mG_13, mS_13, mR_14, mG_14, mS_14, mR_15, mG_15, mS_15, mR_16, mG_16, mS_16, mR_17, mG_17, mS_17, mR_18, mG_18, mS_18, mR_19, mG_19, mS_19, mR_24, mG_24, mS_24, mR_26, mG_26, mS_26, mK_8, gS_1, gS_2, gA_1, gA_2, Option.bind_some, Option.bind_none, h1, h2, eq_self, if_true, if_false, ite_true, ite_false, bd_I, bd_V, bd_A, bd_L, re_I, re_V, Bool.true_and, Bool.and_true, reduceIte, reduceCtorEq, ↓reduceIte, Nat.reduceEqDiff, hg.1, ha, show ((4 : Int32) = 3) = False by decide, e36, tr_L, be_L, show ((1 : Int32) = 0) = False by decide]; rfl
  | .inr (.inr (.inr (.inr (e, em, cr, crm)))), hO, hg =>
    simp only [mI_0, mP_0, mI_4, mP_4, mI_5, mP_5, mI_6, mP_6, mI_20, mP_20, mI_21, mP_21, mI_22, mP_22, mI_23, mP_23, mI_25, mP_25, mI_27, mP_27, mR_1, mG_1, mS_1, mR_2, mG_2, mS_2, mR_3, mG_3, mS_3, mR_7, mG_7, mS_7, mR_8, mG_8, mS_8, mR_9, mG_9, mS_9, mR_10, mG_10, mS_10, mR_11, mG_11, mS_11, mR_12, mG_12, mS_12, mR_13, mG_13, mS_13, mR_14, mG_14, mS_14, mR_15, mG_15, mS_15, mR_16, mG_16, mS_16, mR_17, mG_17, mS_17, mR_18, mG_18, mS_18, mR_19, mG_19, mS_19, mR_24, mG_24, mS_24, mR_26, mG_26, mS_26, mK_8, gS_1, gS_2, gA_1, gA_2, Option.bind_some, Option.bind_none, h1, h2, eq_self, if_true, if_false, ite_true, ite_false, bd_I, bd_V, bd_A, bd_L, re_I, re_V, Bool.true_and, Bool.and_true, reduceIte, reduceCtorEq, ↓reduceIte, Nat.reduceEqDiff, hg.1, ha, show ((5 : Int32) = 3) = False by decide, e36, tr_L, be_L, show ((1 : Int32) = 0) = False by decide]; rfl
/-- bytes copied the other way round -/
def rv_cpy (f g : Nat → Int32) (top i d : Nat) : Nat → Int32 := fun j => if i ≤ j ∧ j < i + d then f (top - j) else g j
theorem rv_0 (f g : Nat → Int32) (top i : Nat) : rv_cpy f g top i 0 = g := by
  funext j; simp only [rv_cpy]; rw [if_neg (by omega)]
theorem rv_step (f g : Nat → Int32) (top i d : Nat) : rv_cpy f (upd g i (f (top - i))) top (i + 1) d = rv_cpy f g top i (d + 1) := by
  funext j; simp only [rv_cpy, upd]
  by_cases h1 : i + 1 ≤ j ∧ j < i + 1 + d
  · rw [if_pos h1, if_pos (by omega)]
  · rw [if_neg h1]
    by_cases h2 : j = i
    · rw [if_pos h2, if_pos (by omega), h2]
    · rw [if_neg h2, if_neg (by omega)]
theorem M_answers_b112 (m : Nat) (h : Hs_t) (l hv c : Nat) (hl : l < 5) (hc : c ≤ hv) (hh : hv ≤ 64) (d : Nat) : ∀ (i k : Nat) (g : Mg_t), g.1 20 = ni c → g.2 14 l = ni hv → i + d = c → f_M_answers_b112 (k + d + 1) m (ni l) (ni i) (MH m g h) = re_Z 1 (MH m (gA (gA g 19 (rv_cpy (g.2 13) (g.2 19) (64 * l + hv - 1) i d)) 14 (upd (g.2 14) l (ni (hv - c)))) h) := by
  have h1 : in_R (ni l) 5 = true := ni_in_t (by omega) hl
  have h2 : (ni l).toNatClampNeg = l := ni_nat (by omega)
  induction d with
  | zero =>
    intro i k g hg hg2 hi
    rw [rv_0, gA_self, f_M_answers_b112]
    simp only [mI_0, mP_0, mI_4, mP_4, mI_5, mP_5, mI_6, mP_6, mI_20, mP_20, mI_21, mP_21, mI_22, mP_22, mI_23, mP_23, mI_25, mP_25, mI_27, mP_27, mR_1, mG_1, mS_1, mR_2, mG_2, mS_2, mR_3, mG_3, mS_3, mR_7, mG_7, mS_7, mR_8, mG_8, mS_8, mR_9, mG_9, mS_9, mR_10, mG_10, mS_10, mR_11, mG_11, mS_11, mR_12, mG_12, mS_12, mR_13, mG_13, mS_13, mR_14, mG_14, mS_14, mR_15, mG_15, mS_15, mR_16, mG_16, mS_16, mR_17, mG_17, mS_17, mR_18, mG_18, mS_18, mR_19, mG_19, mS_19, mR_24, mG_24, mS_24, mR_26, mG_26, mS_26, mK_8, gS_1, gS_2, gA_1, gA_2, Option.bind_some, Option.bind_none, h1, h2, eq_self, if_true, if_false, ite_true, ite_false, bd_I, bd_V, bd_A, bd_L, re_I, re_V, Bool.true_and, Bool.and_true, reduceIte, reduceCtorEq, ↓reduceIte, Nat.reduceEqDiff, hg, hg2]
    rw [if_pos (niL (by omega) (by omega) (by omega)), ni_sub hc]
  | succ d ih =>
    intro i k g hg hg2 hi
    have h3 : in_R (ni (64 * l + hv - 1 - i)) 320 = true := ni_in_t (by omega) (by omega)
    have h4 : in_R (ni i) 120 = true := ni_in_t (by omega) (by omega)
    have h5 : (ni (64 * l + hv - 1 - i)).toNatClampNeg = 64 * l + hv - 1 - i := ni_nat (by omega)
    have h6 : (ni i).toNatClampNeg = i := ni_nat (by omega)
    have h7 : ni (64 * l + hv) - 1 - ni i = ni (64 * l + hv - 1 - i) := by rw [ni_1, ni_sub (by omega), ni_sub (by omega)]
    rw [show k + (d + 1) + 1 = (k + d + 1) + 1 by omega]
    rw [f_M_answers_b112]
    simp only [mI_0, mP_0, mI_4, mP_4, mI_5, mP_5, mI_6, mP_6, mI_20, mP_20, mI_21, mP_21, mI_22, mP_22, mI_23, mP_23, mI_25, mP_25, mI_27, mP_27, mR_1, mG_1, mS_1, mR_2, mG_2, mS_2, mR_3, mG_3, mS_3, mR_7, mG_7, mS_7, mR_8, mG_8, mS_8, mR_9, mG_9, mS_9, mR_10, mG_10, mS_10, mR_11, mG_11, mS_11, mR_12, mG_12, mS_12, mR_13, mG_13, mS_13, mR_14, mG_14, mS_14, mR_15, mG_15, mS_15, mR_16, mG_16, mS_16, mR_17, mG_17, mS_17, mR_18, mG_18, mS_18, mR_19, mG_19, mS_19, mR_24, mG_24, mS_24, mR_26, mG_26, mS_26, mK_8, gS_1, gS_2, gA_1, gA_2, Option.bind_some, Option.bind_none, h1, h2, eq_self, if_true, if_false, ite_true, ite_false, bd_I, bd_V, bd_A, bd_L, re_I, re_V, Bool.true_and, Bool.and_true, reduceIte, reduceCtorEq, ↓reduceIte, Nat.reduceEqDiff, hg, hg2, ni_64, ni_add, h3, h4, h5, h6, h7]
    rw [if_neg (niNL (by omega) (by omega) (by omega)), ni_p1]
    rw [ih (i + 1) k _ (by simp only [gA_1]; exact hg) (by simp only [gA_2]; exact hg2) (by omega)]
    simp only [gA_gA, gA_2, eq_self, if_true, if_false, ite_true, ite_false, bd_I, bd_V, bd_A, bd_L, re_I, re_V, Bool.true_and, Bool.and_true, reduceIte, reduceCtorEq, ↓reduceIte, Nat.reduceEqDiff]
    rw [rv_step]
theorem FR1 {l : Nat} {g g' : Mg_t} (h1 : ∀ k, k ≠ 20 → k ≠ 5 → g'.1 k = g.1 k) (h2 : ∀ k, k ∈ [1, 2, 3, 7, 8, 10, 12, 17, 24, 26] → g'.2 k = g.2 k) (h3 : ∀ k, k ∈ [9, 11, 14, 15, 16, 18] → ∀ i, i ≠ l → g'.2 k i = g.2 k i) (h4 : ∀ j, (j < 64 * l ∨ 64 * (l + 1) ≤ j) → g'.2 13 j = g.2 13 j) : FR l (l + 1) g g' := ⟨h1, h2, fun k hk i hi => h3 k hk i (by omega), h4⟩
theorem M_answers (m : Nat) (h : Hs_t) (l n : Nat) (hl : l < 5) (hn0 : 1 ≤ n) (hn : n ≤ 120) (g : Mg_t) (L : Ly_t) (hO : ly_O L) (hg : RLm g l L) (ha : g.2 18 l = ni n) : match an_L L n with
    | none => f_M_answers m (ni l) (MH m g h) = re_Z 0 (MH m g h)
    | some p => ∃ g', f_M_answers m (ni l) (MH m g h) = re_Z 1 (MH m g' h) ∧ RLm g' l p.2 ∧ AN g' p.1 ∧ FR l (l + 1) g g' ∧ g'.1 5 = g.1 5 := by
  have h1 : in_R (ni l) 5 = true := ni_in_t (by omega) hl
  have h2 : (ni l).toNatClampNeg = l := ni_nat (by omega)
  rw [f_M_answers]
  match L, hO, hg with
  | .inl (rm, kp, [], mq), hO, hg =>
    simp only [an_L]
    obtain ⟨a1, a2, a3, a4, a5, a6, a7⟩ := hg
    simp only [mI_0, mP_0, mI_4, mP_4, mI_5, mP_5, mI_6, mP_6, mI_20, mP_20, mI_21, mP_21, mI_22, mP_22, mI_23, mP_23, mI_25, mP_25, mI_27, mP_27, mR_1, mG_1, mS_1, mR_2, mG_2, mS_2, mR_3, mG_3, mS_3, mR_7, mG_7, mS_7, mR_8, mG_8, mS_8, mR_9, mG_9, mS_9, mR_10, mG_10, mS_10, mR_11, mG_11, mS_11, mR_12, mG_12, mS_12, mR_13, mG_13, mS_13, mR_14, mG_14, mS_14, mR_15, mG_15, mS_15, mR_16, mG_16, mS_16, mR_17, mG_17, mS_17, mR_18, mG_18, mS_18, mR_19, mG_19, mS_19, mR_24, mG_24, mS_24, mR_26, mG_26, mS_26, mK_8, gS_1, gS_2, gA_1, gA_2, Option.bind_some, Option.bind_none, h1, h2, eq_self, if_true, if_false, ite_true, ite_false, bd_I, bd_V, bd_A, bd_L, re_I, re_V, Bool.true_and, Bool.and_true, reduceIte, reduceCtorEq, ↓reduceIte, Nat.reduceEqDiff, a1, show ((1 : Int32) = 3) = False by decide, f_M_answers_b26, M_toGive m g h l hl, a3, a4, ni_sub2, show ni ([] : List Int32).length ≤ 0 from by decide, f_M_answers_b57, show ((1 : Int32) = 2) = False by decide]
    rfl
  | .inl (rm, kp, t :: tg, mq), hO, hg =>
    simp only [an_L]
    obtain ⟨g', e1, e2⟩ := M_give m h l n hl (by omega) g rm kp (t :: tg) mq hO hg
    obtain ⟨a1, a2, a3, a4, a5, a6, a7⟩ := hg
    have h5 := hO.2.2.2.2.1
    have h6 := hO.2.1
    have c1 : ¬ (ni (t :: tg).length ≤ 0) := niNL (b := 0) (by omega) (by omega) (by simp)
    simp only [mI_0, mP_0, mI_4, mP_4, mI_5, mP_5, mI_6, mP_6, mI_20, mP_20, mI_21, mP_21, mI_22, mP_22, mI_23, mP_23, mI_25, mP_25, mI_27, mP_27, mR_1, mG_1, mS_1, mR_2, mG_2, mS_2, mR_3, mG_3, mS_3, mR_7, mG_7, mS_7, mR_8, mG_8, mS_8, mR_9, mG_9, mS_9, mR_10, mG_10, mS_10, mR_11, mG_11, mS_11, mR_12, mG_12, mS_12, mR_13, mG_13, mS_13, mR_14, mG_14, mS_14, mR_15, mG_15, mS_15, mR_16, mG_16, mS_16, mR_17, mG_17, mS_17, mR_18, mG_18, mS_18, mR_19, mG_19, mS_19, mR_24, mG_24, mS_24, mR_26, mG_26, mS_26, mK_8, gS_1, gS_2, gA_1, gA_2, Option.bind_some, Option.bind_none, h1, h2, eq_self, if_true, if_false, ite_true, ite_false, bd_I, bd_V, bd_A, bd_L, re_I, re_V, Bool.true_and, Bool.and_true, reduceIte, reduceCtorEq, ↓reduceIte, Nat.reduceEqDiff, a1, show ((1 : Int32) = 3) = False by decide, f_M_answers_b26, M_toGive m g h l hl, a3, a4, ni_sub2, c1, ha, e1]
    exact ⟨g', rfl, e2⟩
  | .inr (.inl (rm, [])), hO, hg =>
    simp only [an_L]
    simp only [mI_0, mP_0, mI_4, mP_4, mI_5, mP_5, mI_6, mP_6, mI_20, mP_20, mI_21, mP_21, mI_22, mP_22, mI_23, mP_23, mI_25, mP_25, mI_27, mP_27, mR_1, mG_1, mS_1, mR_2, mG_2, mS_2, mR_3, mG_3, mS_3, mR_7, mG_7, mS_7, mR_8, mG_8, mS_8, mR_9, mG_9, mS_9, mR_10, mG_10, mS_10, mR_11, mG_11, mS_11, mR_12, mG_12, mS_12, mR_13, mG_13, mS_13, mR_14, mG_14, mS_14, mR_15, mG_15, mS_15, mR_16, mG_16, mS_16, mR_17, mG_17, mS_17, mR_18, mG_18, mS_18, mR_19, mG_19, mS_19, mR_24, mG_24, mS_24, mR_26, mG_26, mS_26, mK_8, gS_1, gS_2, gA_1, gA_2, Option.bind_some, Option.bind_none, h1, h2, eq_self, if_true, if_false, ite_true, ite_false, bd_I, bd_V, bd_A, bd_L, re_I, re_V, Bool.true_and, Bool.and_true, reduceIte, reduceCtorEq, ↓reduceIte, Nat.reduceEqDiff, hg.1, show ((2 : Int32) = 3) = False by decide, f_M_answers_b26, show ((2 : Int32) = 1) = False by decide, f_M_answers_b57, hg.2.2.1, show ni ([] : List Int32).length ≤ 0 from by decide]
    rfl
  | .inr (.inl (rm, b :: st)), hO, hg =>
    simp only [an_L]
    obtain ⟨a1, a2, a3, a4⟩ := hg
    have h5 := hO.2.2.2
    have h6 := hO.2.1
    generalize hs : b :: st = ss at *
    have hp : 1 ≤ ss.length := by rw [← hs]; simp
    have c1 : ¬ (ni ss.length ≤ 0) := niNL (b := 0) (by omega) (by omega) (by omega)
    have e1 : f_M_answers_b107 m (ni l) (ni (ss.take n).length) m (MH m g h) = re_Z 1 (MH m (gA (gA (gS g 20 (ni (ss.take n).length)) 19 (rv_cpy (g.2 13) (g.2 19) (64 * l + ss.length - 1) 0 (ss.take n).length)) 14 (upd (g.2 14) l (ni (ss.length - (ss.take n).length)))) h) := by
      have hc : (ss.take n).length ≤ ss.length := by rw [List.length_take]; omega
      rw [f_M_answers_b107]
      simp only [mI_0, mP_0, mI_4, mP_4, mI_5, mP_5, mI_6, mP_6, mI_20, mP_20, mI_21, mP_21, mI_22, mP_22, mI_23, mP_23, mI_25, mP_25, mI_27, mP_27, mR_1, mG_1, mS_1, mR_2, mG_2, mS_2, mR_3, mG_3, mS_3, mR_7, mG_7, mS_7, mR_8, mG_8, mS_8, mR_9, mG_9, mS_9, mR_10, mG_10, mS_10, mR_11, mG_11, mS_11, mR_12, mG_12, mS_12, mR_13, mG_13, mS_13, mR_14, mG_14, mS_14, mR_15, mG_15, mS_15, mR_16, mG_16, mS_16, mR_17, mG_17, mS_17, mR_18, mG_18, mS_18, mR_19, mG_19, mS_19, mR_24, mG_24, mS_24, mR_26, mG_26, mS_26, mK_8, gS_1, gS_2, gA_1, gA_2, Option.bind_some, Option.bind_none]
      have := M_answers_b112 m h l ss.length (ss.take n).length hl hc (by omega) (ss.take n).length 0 (fu_N - (ss.take n).length - 1) (gS g 20 (ni (ss.take n).length)) rfl a3 (by omega)
      rw [show fu_N - (ss.take n).length - 1 + (ss.take n).length + 1 = fu_N by simp only [fu_N]; omega] at this
      exact this
    have hb2 : (if ni ss.length ≤ ni n then f_M_answers_b107 m (ni l) (ni ss.length) m (MH m g h) else f_M_answers_b107 m (ni l) (ni n) m (MH m g h)) = f_M_answers_b107 m (ni l) (ni (ss.take n).length) m (MH m g h) := by
      by_cases hc : ss.length ≤ n
      · rw [if_pos (niL (by omega) (by omega) hc), List.take_of_length_le hc]
      · rw [if_neg (niNL (by omega) (by omega) (by omega)), List.length_take, show min n ss.length = n by omega]
    simp only [mI_0, mP_0, mI_4, mP_4, mI_5, mP_5, mI_6, mP_6, mI_20, mP_20, mI_21, mP_21, mI_22, mP_22, mI_23, mP_23, mI_25, mP_25, mI_27, mP_27, mR_1, mG_1, mS_1, mR_2, mG_2, mS_2, mR_3, mG_3, mS_3, mR_7, mG_7, mS_7, mR_8, mG_8, mS_8, mR_9, mG_9, mS_9, mR_10, mG_10, mS_10, mR_11, mG_11, mS_11, mR_12, mG_12, mS_12, mR_13, mG_13, mS_13, mR_14, mG_14, mS_14, mR_15, mG_15, mS_15, mR_16, mG_16, mS_16, mR_17, mG_17, mS_17, mR_18, mG_18, mS_18, mR_19, mG_19, mS_19, mR_24, mG_24, mS_24, mR_26, mG_26, mS_26, mK_8, gS_1, gS_2, gA_1, gA_2, Option.bind_some, Option.bind_none, h1, h2, eq_self, if_true, if_false, ite_true, ite_false, bd_I, bd_V, bd_A, bd_L, re_I, re_V, Bool.true_and, Bool.and_true, reduceIte, reduceCtorEq, ↓reduceIte, Nat.reduceEqDiff, a1, show ((2 : Int32) = 3) = False by decide, f_M_answers_b26, show ((2 : Int32) = 1) = False by decide, f_M_answers_b57, a3, c1, ha, hb2, e1]
    refine ⟨_, rfl, ?_, ⟨rfl, ?_⟩, FR1 (fun k k1 _ => by simp only [gA_1, gS_1, if_neg k1]) (fun k hk => ?_) (fun k hk i hi => ?_) (fun j hj => rfl), rfl⟩
    · simp only [RLm, gA_2, gS_2, eq_self, if_true, if_false, ite_true, ite_false, bd_I, bd_V, bd_A, bd_L, re_I, re_V, Bool.true_and, Bool.and_true, reduceIte, reduceCtorEq, ↓reduceIte, Nat.reduceEqDiff, List.length_drop]
      have hlt : (ss.take n).length = min n ss.length := by rw [List.length_take]
      refine ⟨a1, a2, by simp only [upd, if_true]; congr 1; omega, ?_⟩
      have : ss.length - n ≤ ss.length := by omega
      rw [← sl_take _ _ _ _ this, a4, List.reverse_drop]
    · simp only [gA_2, eq_self, if_true, if_false, ite_true, ite_false, bd_I, bd_V, bd_A, bd_L, re_I, re_V, Bool.true_and, Bool.and_true, reduceIte, reduceCtorEq, ↓reduceIte, Nat.reduceEqDiff]
      refine sl_of fun j hj => ?_
      have hlt : (ss.take n).length = min n ss.length := by rw [List.length_take]
      simp only [rv_cpy]
      rw [if_pos (by omega)]
      have hq := sl_at (f := g.2 13) (i := 64 * l) (bs := ss.reverse) (by rw [List.length_reverse]; exact a4) (ss.length - 1 - j) (by rw [List.length_reverse]; omega)
      rw [show 64 * l + ss.length - 1 - (0 + j) = 64 * l + (ss.length - 1 - j) by omega, hq]
      simp only [List.getElem_reverse, List.getElem_take]
      congr 1; omega
    · simp only [List.mem_cons, List.not_mem_nil, or_false] at hk
      rcases hk with hk | hk | hk | hk | hk | hk | hk | hk | hk | hk <;> subst hk <;> rfl
    · simp only [List.mem_cons, List.not_mem_nil, or_false] at hk
      rcases hk with hk | hk | hk | hk | hk | hk <;> subst hk <;> simp only [gA_2, gS_2, eq_self, if_true, if_false, ite_true, ite_false, bd_I, bd_V, bd_A, bd_L, re_I, re_V, Bool.true_and, Bool.and_true, reduceIte, reduceCtorEq, ↓reduceIte, Nat.reduceEqDiff, upd, if_neg hi]
  | .inr (.inr (.inl (0, lm))), hO, hg =>
    simp only [an_L]
    simp only [mI_0, mP_0, mI_4, mP_4, mI_5, mP_5, mI_6, mP_6, mI_20, mP_20, mI_21, mP_21, mI_22, mP_22, mI_23, mP_23, mI_25, mP_25, mI_27, mP_27, mR_1, mG_1, mS_1, mR_2, mG_2, mS_2, mR_3, mG_3, mS_3, mR_7, mG_7, mS_7, mR_8, mG_8, mS_8, mR_9, mG_9, mS_9, mR_10, mG_10, mS_10, mR_11, mG_11, mS_11, mR_12, mG_12, mS_12, mR_13, mG_13, mS_13, mR_14, mG_14, mS_14, mR_15, mG_15, mS_15, mR_16, mG_16, mS_16, mR_17, mG_17, mS_17, mR_18, mG_18, mS_18, mR_19, mG_19, mS_19, mR_24, mG_24, mS_24, mR_26, mG_26, mS_26, mK_8, gS_1, gS_2, gA_1, gA_2, Option.bind_some, Option.bind_none, h1, h2, eq_self, if_true, if_false, ite_true, ite_false, bd_I, bd_V, bd_A, bd_L, re_I, re_V, Bool.true_and, Bool.and_true, reduceIte, reduceCtorEq, ↓reduceIte, Nat.reduceEqDiff, hg.1, hg.2.1, show (ni 0 = 0) = True by decide]
    refine ⟨_, rfl, ⟨hg.1, hg.2.1, hg.2.2⟩, ⟨rfl, rfl⟩, FR1 (fun k k1 _ => by simp only [gS_1, if_neg k1]) (fun k hk => rfl) (fun k hk i hi => rfl) (fun j hj => rfl), rfl⟩
  | .inr (.inr (.inl (lf + 1, lm))), hO, hg =>
    simp only [an_L]
    have := hO.1
    have c1 : ¬ (ni (lf + 1) = 0) := niNE (b := 0) (by omega) (by omega) (by omega)
    simp only [mI_0, mP_0, mI_4, mP_4, mI_5, mP_5, mI_6, mP_6, mI_20, mP_20, mI_21, mP_21, mI_22, mP_22, mI_23, mP_23, mI_25, mP_25, mI_27, mP_27, mR_1, mG_1, mS_1, mR_2, mG_2, mS_2, mR_3, mG_3, mS_3, mR_7, mG_7, mS_7, mR_8, mG_8, mS_8, mR_9, mG_9, mS_9, mR_10, mG_10, mS_10, mR_11, mG_11, mS_11, mR_12, mG_12, mS_12, mR_13, mG_13, mS_13, mR_14, mG_14, mS_14, mR_15, mG_15, mS_15, mR_16, mG_16, mS_16, mR_17, mG_17, mS_17, mR_18, mG_18, mS_18, mR_19, mG_19, mS_19, mR_24, mG_24, mS_24, mR_26, mG_26, mS_26, mK_8, gS_1, gS_2, gA_1, gA_2, Option.bind_some, Option.bind_none, h1, h2, eq_self, if_true, if_false, ite_true, ite_false, bd_I, bd_V, bd_A, bd_L, re_I, re_V, Bool.true_and, Bool.and_true, reduceIte, reduceCtorEq, ↓reduceIte, Nat.reduceEqDiff, hg.1, hg.2.1, c1, f_M_answers_b26, f_M_answers_b57, show ((3 : Int32) = 1) = False by decide, show ((3 : Int32) = 2) = False by decide]
    rfl
  | .inr (.inr (.inr (.inl (key, cd, cm)))), hO, hg =>
    simp only [an_L]
    simp only [mI_0, mP_0, mI_4, mP_4, mI_5, mP_5, mI_6, mP_6, mI_20, mP_20, mI_21, mP_21, mI_22, mP_22, mI_23, mP_23, mI_25, mP_25, mI_27, mP_27, mR_1, mG_1, mS_1, mR_2, mG_2, mS_2, mR_3, mG_3, mS_3, mR_7, mG_7, mS_7, mR_8, mG_8, mS_8, mR_9, mG_9, mS_9, mR_10, mG_10, mS_10, mR_11, mG_11, mS_11, mR_12, mG_12, mS_12, mR_13, mG_13, mS_13, mR_14, mG_14, mS_14, mR_15, mG_15, mS_15, mR_16, mG_16, mS_16, mR_17, mG_17, mS_17, mR_18, mG_18, mS_18, mR_19, mG_19, mS_19, mR_24, mG_24, mS_24, mR_26, mG_26, mS_26, mK_8, gS_1, gS_2, gA_1, gA_2, Option.bind_some, Option.bind_none, h1, h2, eq_self, if_true, if_false, ite_true, ite_false, bd_I, bd_V, bd_A, bd_L, re_I, re_V, Bool.true_and, Bool.and_true, reduceIte, reduceCtorEq, ↓reduceIte, Nat.reduceEqDiff, hg.1, f_M_answers_b26, f_M_answers_b57, show ((4 : Int32) = 3) = False by decide, show ((4 : Int32) = 1) = False by decide, show ((4 : Int32) = 2) = False by decide]
    rfl
  | .inr (.inr (.inr (.inr (e, em, cr, crm)))), hO, hg =>
    simp only [an_L]
    simp only [mI_0, mP_0, mI_4, mP_4, mI_5, mP_5, mI_6, mP_6, mI_20, mP_20, mI_21, mP_21, mI_22, mP_22, mI_23, mP_23, mI_25, mP_25, mI_27, mP_27, mR_1, mG_1, mS_1, mR_2, mG_2, mS_2, mR_3, mG_3, mS_3, mR_7, mG_7, mS_7, mR_8, mG_8, mS_8, mR_9, mG_9, mS_9, mR_10, mG_10, mS_10, mR_11, mG_11, mS_11, mR_12, mG_12, mS_12, mR_13, mG_13, mS_13, mR_14, mG_14, mS_14, mR_15, mG_15, mS_15, mR_16, mG_16, mS_16, mR_17, mG_17, mS_17, mR_18, mG_18, mS_18, mR_19, mG_19, mS_19, mR_24, mG_24, mS_24, mR_26, mG_26, mS_26, mK_8, gS_1, gS_2, gA_1, gA_2, Option.bind_some, Option.bind_none, h1, h2, eq_self, if_true, if_false, ite_true, ite_false, bd_I, bd_V, bd_A, bd_L, re_I, re_V, Bool.true_and, Bool.and_true, reduceIte, reduceCtorEq, ↓reduceIte, Nat.reduceEqDiff, hg.1, f_M_answers_b26, f_M_answers_b57, show ((5 : Int32) = 3) = False by decide, show ((5 : Int32) = 1) = False by decide, show ((5 : Int32) = 2) = False by decide]
    rfl
