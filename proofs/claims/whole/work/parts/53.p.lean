/-! Calls that read: the program's and the reference's ends. -/
abbrev Wd_t : Type := List Ly_t × Sr_t × Int32 × Int32 × Int32 × List Int32 × List Int32
def RTw (b : Nat) (as : List Nat) (h : Hs_t) (w : Wd_t) : Prop := RT b as h w.1 w.2.1 w.2.2.1 w.2.2.2.1 w.2.2.2.2.1 w.2.2.2.2.2.1 w.2.2.2.2.2.2
def RWw (g : Mg_t) (w : Wd_t) : Prop := RW g w.1 w.2.1 w.2.2.1 w.2.2.2.1 w.2.2.2.2.1 w.2.2.2.2.2.1 w.2.2.2.2.2.2
def wv_O (w : Wd_t) : Prop := iv_O w.1 w.2.1 ∧ w.1.length ≤ 5 ∧ (w.2.2.1 = 0 ∨ w.2.2.1 = 1) ∧ (w.2.2.2.1 = 0 ∨ w.2.2.2.1 = 1) ∧ (w.2.2.2.2.1 = 0 ∨ w.2.2.2.2.1 = 1) ∧ w.2.2.2.2.2.1.length ≤ 160 ∧ by_A w.2.2.2.2.2.1 ∧ w.2.2.2.2.2.2.length ≤ 118
def TR (b : Nat) (h : Hs_t) (F : Rs_t) (o : Option Value ⊕ Nat) (w : Wd_t) : Prop := match o with
  | .inl v => ∃ h' as', F = some (.returned v, h') ∧ RTw b as' h' w ∧ FK b h h'
  | .inr t => ThR b h F t (fun as' h' => RTw b as' h' w)
def MR (m : Nat) (h : Hs_t) (F : Rs_t) (v : Option Value) (c : Int32) (w : Wd_t) : Prop := ∃ g', F = some (.returned v, MH m g' h) ∧ RWw g' w ∧ g'.1 0 = c
def MO (m : Nat) (h : Hs_t) (F : Rs_t) (o : Option Value ⊕ Nat) (cf : Nat → Int32) (df : Option Value) (w : Wd_t) : Prop := match o with
  | .inl v => MR m h F v 0 w
  | .inr t => MR m h F df (cf t) w
theorem T_clear {b : Nat} {as : List Nat} {h : Hs_t} {ls : List Ly_t} {s : Sr_t} {lv lvm cl : Int32} {bag lt : List Int32} (hT : RT b as h ls s lv lvm cl bag lt) : ∃ h', f_Row_clear (b + 7) h = re_V h' ∧ RT b as h' ls s lv lvm cl [] lt ∧ FK b h h' ∧ h'.2 b = h.2 b := by
  obtain ⟨a1, a2, a3, a4, ⟨f8, a5, a5'⟩, a6, a7, a8, a9, a10, a11, a12⟩ := hT
  rw [f_Row_clear]
  simp only [fd_I, fd_V, fd_A, pt_V, pt_Z, ar_I, ar_Z, ar_R, as_I, as_Z, cp_I, ln_A, ck_T, tg_O, hp_2, List.contains_cons, List.contains_nil, List.getElem?_cons_zero, List.getElem?_cons_succ, List.set_cons_succ, List.set_cons_zero, List.length_cons, List.length_nil, Option.bind_some, Option.bind_none, Nat.reduceLT, Nat.reduceAdd, Nat.reduceBEq, BEq.rfl, beq_self_eq_true, Bool.or_false, Bool.or_true, Bool.true_or, Bool.false_or, decide_true, decide_false, Bool.not_false, Bool.not_true, Nat.zero_lt_succ, Nat.lt_add_left_iff_pos, Nat.succ_ne_self, ne_eq, not_false_eq_true, eq_self, if_true, if_false, ite_true, ite_false, bd_I, bd_V, bd_A, bd_L, re_I, re_V, Bool.true_and, Bool.and_true, reduceIte, reduceCtorEq, ↓reduceIte, Nat.reduceEqDiff, a4]
  refine ⟨_, rfl, RT.bag (h := h) (f := f8) ⟨a1, a2, a3, a4, ⟨f8, a5, a5'⟩, a6, a7, a8, a9, a10, a11, a12⟩ (hp_at _ _ _) (by rw [hp_ne _ _ _ _ (by omega)]; exact a5) rfl rfl (fun q q1 q2 => hp_ne _ _ _ _ q1), FK.set (Or.inl (by omega)), hp_ne _ _ _ _ (by omega)⟩
theorem T_start {b : Nat} {as : List Nat} {h : Hs_t} {ls : List Ly_t} {s : Sr_t} {lv lvm cl : Int32} {bag lt : List Int32} (hT : RT b as h ls s lv lvm cl bag lt) (k : Hs_t → Rs_t) : (cl = 0 → ∃ h', bd_V (f_T_startReading b h) k = k h' ∧ RT b as h' ls s lv lvm cl [] lt ∧ FK b h h') ∧ (¬ cl = 0 → ThR b h (bd_V (f_T_startReading b h) k) 10 (fun as' h' => RT b as' h' ls s lv lvm cl [] lt)) := by
  obtain ⟨h1, e1, e2, e3, e4⟩ := T_clear hT
  have c0 := hT.1
  have c1 := e2.1
  have a4 := hT.2.2.2.1
  rw [f_T_startReading]
  simp only [fd_I, fd_V, fd_A, pt_V, pt_Z, ar_I, ar_Z, ar_R, as_I, as_Z, cp_I, ln_A, ck_T, tg_O, hp_2, List.contains_cons, List.contains_nil, List.getElem?_cons_zero, List.getElem?_cons_succ, List.set_cons_succ, List.set_cons_zero, List.length_cons, List.length_nil, Option.bind_some, Option.bind_none, Nat.reduceLT, Nat.reduceAdd, Nat.reduceBEq, BEq.rfl, beq_self_eq_true, Bool.or_false, Bool.or_true, Bool.true_or, Bool.false_or, decide_true, decide_false, Bool.not_false, Bool.not_true, Nat.zero_lt_succ, Nat.lt_add_left_iff_pos, Nat.succ_ne_self, ne_eq, not_false_eq_true, c0, a4, e1, eq_self, if_true, if_false, ite_true, ite_false, bd_I, bd_V, bd_A, bd_L, re_I, re_V, Bool.true_and, Bool.and_true, reduceIte, reduceCtorEq, ↓reduceIte, Nat.reduceEqDiff, c1, f_T_refuseWhenClosed]
  constructor
  · intro hc
    simp only [hc, if_true]
    subst hc
    exact ⟨h1, rfl, e2, e3⟩
  · intro hc
    simp only [hc, if_false]
    have := T_throw (h0 := h) e2 e3 10
    obtain ⟨x, h', as', q1, q2, q3, q4⟩ := this
    exact ⟨x, h', as', by rw [q1], q2, q3, q4⟩
theorem ck_0 {b : Nat} {as : List Nat} {h : Hs_t} {ls : List Ly_t} {s : Sr_t} {lv lvm cl : Int32} {bag lt : List Int32} (hT : RT b as h ls s lv lvm cl bag lt) : ck_T [0] h b = some 0 := by
  simp only [ck_T, tg_O, hT.1]; rfl
theorem RW.clr {g : Mg_t} {ls : List Ly_t} {s : Sr_t} {lv lvm cl : Int32} {bag lt : List Int32} (h : RW g ls s lv lvm cl bag lt) : RW (gS g 25 0) ls s lv lvm cl [] lt := by
  obtain ⟨a1, a2, a3, a4, a5, a6, a7, a8, a9, a10⟩ := h
  exact ⟨RMl.congr (g := g) (g' := gS g 25 0) (fun k _ _ => rfl) a1, a2, a3, a4, a5, a6, rfl, rfl, a9, a10⟩
theorem RW.cd {g : Mg_t} {ls : List Ly_t} {s : Sr_t} {lv lvm cl : Int32} {bag lt : List Int32} (h : RW g ls s lv lvm cl bag lt) (x : Int32) : RW (gS g 0 x) ls s lv lvm cl bag lt := h.of (fun k k1 _ => by simp only [gS_1, if_neg k1]) (fun _ _ => rfl)
/-- read -/
def op_read (w : Wd_t) : (Option Value ⊕ Nat) × Wd_t := match w with
  | (ls, s, lv, lvm, cl, _, lt) => if cl = 0 then (match rd ls s lv 1 with
    | ((none, ls1, s1), lv1) => (.inr 10, (ls1, s1, lv1, lvm, cl, [], lt))
    | ((some bs, ls1, s1), lv1) => (.inl (some (.int (if bs = [] then -1 else bs.getD 0 0))), (ls1, s1, lv1, lvm, cl, bs, lt))) else (.inr 10, (ls, s, lv, lvm, cl, [], lt))
theorem T_read {b : Nat} {as : List Nat} {h : Hs_t} {w : Wd_t} (hT : RTw b as h w) (hv : wv_O w) : TR b h (f_T_read b h) (op_read w).1 (op_read w).2 := by
  obtain ⟨ls, s, lv, lvm, cl, bag, lt⟩ := w
  have hT : RT b as h ls s lv lvm cl bag lt := hT
  obtain ⟨v1, v2, v3, v4, v5, v6, v7, v8⟩ := hv
  rw [f_T_read, ck_0 hT, Option.bind_some]
  simp only [op_read]
  by_cases hc : cl = 0
  · obtain ⟨h1, e1, e2, e3⟩ := (T_start hT _).1 hc
    rw [e1, if_pos hc]
    have hK := rd_iv ls s lv 1 (by omega) v1 v3
    obtain ⟨h2, f2, q1, q2, q3, q4, q5, q6⟩ := T_request e2 v1 v2 (n := 1) (by omega) (by omega)
    rw [ck_0 e2, Option.bind_some, show f_T_request b 1 h1 = _ from q1]
    simp only [bd_I, re_I]
    generalize rd ls s lv 1 = z at *
    match z, hK, q2, q6 with
    | ((none, ls1, s1), lv1), hK, q2, q6 =>
      rw [show rc_I (((none, ls1, s1), lv1) : Rq_t × Int32).1.1 = -1 from rfl, if_pos rfl]
      exact T_throw q2 (e3.trans q3) 10
    | ((some bs, ls1, s1), lv1), hK, q2, q6 =>
      have hb := hK.2.2.2.2 _ rfl
      have hb1 := hb.1
      rw [show rc_I (((some bs, ls1, s1), lv1) : Rq_t × Int32).1.1 = ni bs.length from rfl]
      obtain ⟨h3, p1, p2, p3, p4⟩ := T_addAll q2 q5 (q6 _ rfl) (by omega) (by simp only [List.length_nil]; omega)
      have c2 := q2.1
      have a4 := q2.2.2.2.1
      have c3 := p2.1
      obtain ⟨f8, a5, a5'⟩ := p2.2.2.2.2.1
      have a4' := p2.2.2.2.1
      rw [List.nil_append] at p2 a4' a5'
      have hget := C_get a4' a5 a5' (by omega) (by omega) 0
      simp only [fd_I, fd_V, fd_A, pt_V, pt_Z, ar_I, ar_Z, ar_R, as_I, as_Z, cp_I, ln_A, ck_T, tg_O, hp_2, List.contains_cons, List.contains_nil, List.getElem?_cons_zero, List.getElem?_cons_succ, List.set_cons_succ, List.set_cons_zero, List.length_cons, List.length_nil, Option.bind_some, Option.bind_none, Nat.reduceLT, Nat.reduceAdd, Nat.reduceBEq, BEq.rfl, beq_self_eq_true, Bool.or_false, Bool.or_true, Bool.true_or, Bool.false_or, decide_true, decide_false, Bool.not_false, Bool.not_true, Nat.zero_lt_succ, Nat.lt_add_left_iff_pos, Nat.succ_ne_self, ne_eq, not_false_eq_true, eq_self, if_true, if_false, ite_true, ite_false, bd_I, bd_V, bd_A, bd_L, re_I, re_V, Bool.true_and, Bool.and_true, reduceIte, reduceCtorEq, ↓reduceIte, Nat.reduceEqDiff, c2, a4, p1, c3, a4', hget, ni_m (show bs.length < 2147483648 by omega)]
      refine ⟨h3, as, ?_, p2, (e3.trans q3).trans p4⟩
      cases bs with
      | nil => rfl
      | cons x bs =>
        rw [if_neg (by decide), if_neg (show ¬ ni (x :: bs).length ≤ 0 from niNL (b := 0) (by omega) (by omega) (by simp)), if_neg (by simp)]
        have h0 : f8 0 = x := by
          simp only [List.length_cons, sl, List.cons.injEq] at a5'
          exact a5'.1
        rw [show (0 : Int32).toNatClampNeg = 0 from by decide, h0]
        rfl
  · rw [if_neg hc]
    exact (T_start hT _).2 hc
theorem M_read {m : Nat} {h : Hs_t} {g : Mg_t} {w : Wd_t} (hR : RWw g w) (hv : wv_O w) : MO m h (f_M_read m (MH m g h)) (op_read w).1 (fun _ => 1) (some (.int 0)) (op_read w).2 := by
  obtain ⟨ls, s, lv, lvm, cl, bag, lt⟩ := w
  have hR : RW g ls s lv lvm cl bag lt := hR
  obtain ⟨v1, v2, v3, v4, v5, v6, v7, v8⟩ := hv
  have e21 : g.1 21 = cl := hR.2.2.2.1
  have hR0 := hR.clr
  rw [f_M_read]
  simp only [mI_0, mP_0, mI_4, mP_4, mI_5, mP_5, mI_6, mP_6, mI_20, mP_20, mI_21, mP_21, mI_22, mP_22, mI_23, mP_23, mI_25, mP_25, mI_27, mP_27, mR_1, mG_1, mS_1, mR_2, mG_2, mS_2, mR_3, mG_3, mS_3, mR_7, mG_7, mS_7, mR_8, mG_8, mS_8, mR_9, mG_9, mS_9, mR_10, mG_10, mS_10, mR_11, mG_11, mS_11, mR_12, mG_12, mS_12, mR_13, mG_13, mS_13, mR_14, mG_14, mS_14, mR_15, mG_15, mS_15, mR_16, mG_16, mS_16, mR_17, mG_17, mS_17, mR_18, mG_18, mS_18, mR_19, mG_19, mS_19, mR_24, mG_24, mS_24, mR_26, mG_26, mS_26, mK_8, gS_1, gS_2, gA_1, gA_2, Option.bind_some, Option.bind_none, eq_self, if_true, if_false, ite_true, ite_false, bd_I, bd_V, bd_A, bd_L, re_I, re_V, Bool.true_and, Bool.and_true, reduceIte, reduceCtorEq, ↓reduceIte, Nat.reduceEqDiff, e21, op_read]
  by_cases hc : cl = 0
  · simp only [hc, if_true]
    subst hc
    have hK := rd_iv ls s lv 1 (by omega) v1 v3
    obtain ⟨g1, q1, q2, q3, q4⟩ := M_reads (m := m) (h := h) hR0 v1 v2 (n := 1) (by omega) (by omega)
    rw [show (1 : Int32) = ni 1 from rfl, q1]
    generalize rd ls s lv 1 = z at *
    match z, hK, q2, q3 with
    | ((none, ls1, s1), lv1), hK, q2, q3 =>
      simp only [Option.isSome, Bool.false_eq_true, if_false, re_Z0, eq_self, if_true, if_false, ite_true, ite_false, bd_I, bd_V, bd_A, bd_L, re_I, re_V, Bool.true_and, Bool.and_true, reduceIte, reduceCtorEq, ↓reduceIte, Nat.reduceEqDiff, f_M_read_b21, f_M_read_b26, mI_0, mP_0, mI_4, mP_4, mI_5, mP_5, mI_6, mP_6, mI_20, mP_20, mI_21, mP_21, mI_22, mP_22, mI_23, mP_23, mI_25, mP_25, mI_27, mP_27, mR_1, mG_1, mS_1, mR_2, mG_2, mS_2, mR_3, mG_3, mS_3, mR_7, mG_7, mS_7, mR_8, mG_8, mS_8, mR_9, mG_9, mS_9, mR_10, mG_10, mS_10, mR_11, mG_11, mS_11, mR_12, mG_12, mS_12, mR_13, mG_13, mS_13, mR_14, mG_14, mS_14, mR_15, mG_15, mS_15, mR_16, mG_16, mS_16, mR_17, mG_17, mS_17, mR_18, mG_18, mS_18, mR_19, mG_19, mS_19, mR_24, mG_24, mS_24, mR_26, mG_26, mS_26, mK_8, gS_1, gS_2, gA_1, gA_2, Option.bind_some, Option.bind_none, show ¬ ((1 : Int32) ≤ 0) by decide]
      exact ⟨_, rfl, q2.cd 1, rfl⟩
    | ((some bs, ls1, s1), lv1), hK, q2, q3 =>
      have hb := hK.2.2.2.2 _ rfl
      have hb1 := hb.1
      have hA := q3 _ rfl
      have hA0 : AN (gS g1 0 0) bs := ⟨hA.1, hA.2⟩
      obtain ⟨g2, p1, p2, p3, p4⟩ := M_putBag (m := m) (h := h) (q2.cd 0) hA0 (by omega) (by simp only [List.length_nil]; omega)
      simp only [Option.isSome, if_true, re_Z1, eq_self, if_true, if_false, ite_true, ite_false, bd_I, bd_V, bd_A, bd_L, re_I, re_V, Bool.true_and, Bool.and_true, reduceIte, reduceCtorEq, ↓reduceIte, Nat.reduceEqDiff, show ((ni 1 : Int32) = 0) = False by decide, show ((1 : Int32) = 0) = False by decide, f_M_read_b26, mI_0, mP_0, mI_4, mP_4, mI_5, mP_5, mI_6, mP_6, mI_20, mP_20, mI_21, mP_21, mI_22, mP_22, mI_23, mP_23, mI_25, mP_25, mI_27, mP_27, mR_1, mG_1, mS_1, mR_2, mG_2, mS_2, mR_3, mG_3, mS_3, mR_7, mG_7, mS_7, mR_8, mG_8, mS_8, mR_9, mG_9, mS_9, mR_10, mG_10, mS_10, mR_11, mG_11, mS_11, mR_12, mG_12, mS_12, mR_13, mG_13, mS_13, mR_14, mG_14, mS_14, mR_15, mG_15, mS_15, mR_16, mG_16, mS_16, mR_17, mG_17, mS_17, mR_18, mG_18, mS_18, mR_19, mG_19, mS_19, mR_24, mG_24, mS_24, mR_26, mG_26, mS_26, mK_8, gS_1, gS_2, gA_1, gA_2, Option.bind_some, Option.bind_none, show ((0 : Int32) ≤ 0) = True by decide, p1, p3.1]
      cases bs with
      | nil => exact ⟨g2, rfl, p2, by rw [p4]; rfl⟩
      | cons x bs =>
        have m0 : ¬ (ni (x :: bs).length = 0) := niNE (b := 0) (by omega) (by omega) (by simp)
        simp only [m0, if_false, f_M_read_b59, re_I, show in_R 0 120 = true by decide, if_true, Option.bind_some, show (0 : Int32).toNatClampNeg = 0 by decide]
        have h0 : g2.2 19 0 = x := by
          have := p3.2
          simp only [List.length_cons, sl, List.cons.injEq] at this
          exact this.1
        rw [h0]
        exact ⟨g2, by simp, p2, by rw [p4]; rfl⟩
  · simp only [hc, if_false, f_M_read_b21, f_M_read_b26, mI_0, mP_0, mI_4, mP_4, mI_5, mP_5, mI_6, mP_6, mI_20, mP_20, mI_21, mP_21, mI_22, mP_22, mI_23, mP_23, mI_25, mP_25, mI_27, mP_27, mR_1, mG_1, mS_1, mR_2, mG_2, mS_2, mR_3, mG_3, mS_3, mR_7, mG_7, mS_7, mR_8, mG_8, mS_8, mR_9, mG_9, mS_9, mR_10, mG_10, mS_10, mR_11, mG_11, mS_11, mR_12, mG_12, mS_12, mR_13, mG_13, mS_13, mR_14, mG_14, mS_14, mR_15, mG_15, mS_15, mR_16, mG_16, mS_16, mR_17, mG_17, mS_17, mR_18, mG_18, mS_18, mR_19, mG_19, mS_19, mR_24, mG_24, mS_24, mR_26, mG_26, mS_26, mK_8, gS_1, gS_2, gA_1, gA_2, Option.bind_some, Option.bind_none, eq_self, if_true, if_false, ite_true, ite_false, bd_I, bd_V, bd_A, bd_L, re_I, re_V, Bool.true_and, Bool.and_true, reduceIte, reduceCtorEq, ↓reduceIte, Nat.reduceEqDiff, show ¬ ((1 : Int32) ≤ 0) by decide]
    exact ⟨_, rfl, hR0.cd 1, rfl⟩
/-- some -/
def op_some (w : Wd_t) (x : Int32) : (Option Value ⊕ Nat) × Wd_t := match w with
  | (ls, s, lv, lvm, cl, _, lt) => if cl = 0 then (if x < 1 then (.inr 9, (ls, s, lv, lvm, cl, [], lt)) else if x ≤ 60 then (match rd ls s lv x.toNatClampNeg with
    | ((none, ls1, s1), lv1) => (.inr 10, (ls1, s1, lv1, lvm, cl, [], lt))
    | ((some bs, ls1, s1), lv1) => (.inl (some (.int (if bs = [] then -1 else ni bs.length))), (ls1, s1, lv1, lvm, cl, bs, lt))) else (.inr 9, (ls, s, lv, lvm, cl, [], lt))) else (.inr 10, (ls, s, lv, lvm, cl, [], lt))
theorem rg {x : Int32} {lo hi : Nat} (h1 : ¬ x < ni lo) (h2 : x ≤ ni hi) (hhi : hi < 100000) (hlo : lo < 100000) : ∃ n, x = ni n ∧ lo ≤ n ∧ n ≤ hi := by
  have h0 : ¬ x < 0 := by
    intro e
    apply h1
    rw [Int32.lt_iff_toInt_lt] at *
    have : (ni lo).toInt = lo := Int32.toInt_ofNat_of_lt (by omega)
    rw [this]
    have : (0 : Int32).toInt = 0 := by decide
    omega
  obtain ⟨n, rfl, hn⟩ := ni_of h0
  rw [ni_lt hn (by omega)] at h1
  rw [ni_le hn (by omega)] at h2
  exact ⟨n, rfl, by omega, h2⟩
theorem T_some {b : Nat} {as : List Nat} {h : Hs_t} {w : Wd_t} (hT : RTw b as h w) (hv : wv_O w) (x : Int32) : TR b h (f_T_some b x h) (op_some w x).1 (op_some w x).2 := by
  obtain ⟨ls, s, lv, lvm, cl, bag, lt⟩ := w
  have hT : RT b as h ls s lv lvm cl bag lt := hT
  obtain ⟨v1, v2, v3, v4, v5, v6, v7, v8⟩ := hv
  rw [f_T_some, ck_0 hT, Option.bind_some]
  simp only [op_some]
  by_cases hc : cl = 0
  · obtain ⟨h1, e1, e2, e3⟩ := (T_start hT _).1 hc
    rw [e1, if_pos hc]
    by_cases x1 : x < 1
    · rw [if_pos x1, if_pos x1]
      exact T_throw e2 e3 9
    · rw [if_neg x1, if_neg x1]
      by_cases x2 : x ≤ 60
      · rw [if_pos x2, if_pos x2]
        obtain ⟨n, rfl, n1, n2⟩ := rg (lo := 1) (hi := 60) x1 x2 (by omega) (by omega)
        rw [ni_nat (by omega)]
        have hK := rd_iv ls s lv n (by omega) v1 v3
        obtain ⟨h2, f2, q1, q2, q3, q4, q5, q6⟩ := T_request e2 v1 v2 (n := n) (by omega) (by omega)
        rw [ck_0 e2, Option.bind_some, q1]
        simp only [bd_I, re_I]
        generalize rd ls s lv n = z at *
        match z, hK, q2, q6 with
        | ((none, ls1, s1), lv1), hK, q2, q6 =>
          rw [show rc_I (((none, ls1, s1), lv1) : Rq_t × Int32).1.1 = -1 from rfl, if_pos rfl]
          exact T_throw q2 (e3.trans q3) 10
        | ((some bs, ls1, s1), lv1), hK, q2, q6 =>
          have hb := hK.2.2.2.2 _ rfl
          have hb1 := hb.1
          rw [show rc_I (((some bs, ls1, s1), lv1) : Rq_t × Int32).1.1 = ni bs.length from rfl]
          obtain ⟨h3, p1, p2, p3, p4⟩ := T_addAll q2 q5 (q6 _ rfl) (by omega) (by simp only [List.length_nil]; omega)
          have c2 := q2.1
          have a4 := q2.2.2.2.1
          rw [List.nil_append] at p2
          simp only [fd_I, fd_V, fd_A, pt_V, pt_Z, ar_I, ar_Z, ar_R, as_I, as_Z, cp_I, ln_A, ck_T, tg_O, hp_2, List.contains_cons, List.contains_nil, List.getElem?_cons_zero, List.getElem?_cons_succ, List.set_cons_succ, List.set_cons_zero, List.length_cons, List.length_nil, Option.bind_some, Option.bind_none, Nat.reduceLT, Nat.reduceAdd, Nat.reduceBEq, BEq.rfl, beq_self_eq_true, Bool.or_false, Bool.or_true, Bool.true_or, Bool.false_or, decide_true, decide_false, Bool.not_false, Bool.not_true, Nat.zero_lt_succ, Nat.lt_add_left_iff_pos, Nat.succ_ne_self, ne_eq, not_false_eq_true, eq_self, if_true, if_false, ite_true, ite_false, bd_I, bd_V, bd_A, bd_L, re_I, re_V, Bool.true_and, Bool.and_true, reduceIte, reduceCtorEq, ↓reduceIte, Nat.reduceEqDiff, c2, a4, p1, ni_m (show bs.length < 2147483648 by omega)]
          refine ⟨h3, as, ?_, p2, (e3.trans q3).trans p4⟩
          cases bs with
          | nil => rfl
          | cons x bs =>
            rw [if_neg (show ¬ ni (x :: bs).length = 0 from niNE (b := 0) (by omega) (by omega) (by simp)), if_neg (by simp)]
            rfl
      · rw [if_neg x2, if_neg x2]
        exact T_throw e2 e3 9
  · rw [if_neg hc]
    exact (T_start hT _).2 hc
theorem M_some {m : Nat} {h : Hs_t} {g : Mg_t} {w : Wd_t} (hR : RWw g w) (hv : wv_O w) (x : Int32) : MO m h (f_M_some m x (MH m g h)) (op_some w x).1 (fun t => if t = 9 then 1 else 2) (some (.int 0)) (op_some w x).2 := by
  obtain ⟨ls, s, lv, lvm, cl, bag, lt⟩ := w
  have hR : RW g ls s lv lvm cl bag lt := hR
  obtain ⟨v1, v2, v3, v4, v5, v6, v7, v8⟩ := hv
  have e21 : g.1 21 = cl := hR.2.2.2.1
  have hR0 := hR.clr
  rw [f_M_some]
  simp only [mI_0, mP_0, mI_4, mP_4, mI_5, mP_5, mI_6, mP_6, mI_20, mP_20, mI_21, mP_21, mI_22, mP_22, mI_23, mP_23, mI_25, mP_25, mI_27, mP_27, mR_1, mG_1, mS_1, mR_2, mG_2, mS_2, mR_3, mG_3, mS_3, mR_7, mG_7, mS_7, mR_8, mG_8, mS_8, mR_9, mG_9, mS_9, mR_10, mG_10, mS_10, mR_11, mG_11, mS_11, mR_12, mG_12, mS_12, mR_13, mG_13, mS_13, mR_14, mG_14, mS_14, mR_15, mG_15, mS_15, mR_16, mG_16, mS_16, mR_17, mG_17, mS_17, mR_18, mG_18, mS_18, mR_19, mG_19, mS_19, mR_24, mG_24, mS_24, mR_26, mG_26, mS_26, mK_8, gS_1, gS_2, gA_1, gA_2, Option.bind_some, Option.bind_none, eq_self, if_true, if_false, ite_true, ite_false, bd_I, bd_V, bd_A, bd_L, re_I, re_V, Bool.true_and, Bool.and_true, reduceIte, reduceCtorEq, ↓reduceIte, Nat.reduceEqDiff, e21, op_some]
  by_cases hc : cl = 0
  · simp only [hc, if_true]
    subst hc
    by_cases x1 : x < 1
    · simp only [x1, if_true, f_M_some_b28, f_M_some_b45, mI_0, mP_0, mI_4, mP_4, mI_5, mP_5, mI_6, mP_6, mI_20, mP_20, mI_21, mP_21, mI_22, mP_22, mI_23, mP_23, mI_25, mP_25, mI_27, mP_27, mR_1, mG_1, mS_1, mR_2, mG_2, mS_2, mR_3, mG_3, mS_3, mR_7, mG_7, mS_7, mR_8, mG_8, mS_8, mR_9, mG_9, mS_9, mR_10, mG_10, mS_10, mR_11, mG_11, mS_11, mR_12, mG_12, mS_12, mR_13, mG_13, mS_13, mR_14, mG_14, mS_14, mR_15, mG_15, mS_15, mR_16, mG_16, mS_16, mR_17, mG_17, mS_17, mR_18, mG_18, mS_18, mR_19, mG_19, mS_19, mR_24, mG_24, mS_24, mR_26, mG_26, mS_26, mK_8, gS_1, gS_2, gA_1, gA_2, Option.bind_some, Option.bind_none, eq_self, if_true, if_false, ite_true, ite_false, bd_I, bd_V, bd_A, bd_L, re_I, re_V, Bool.true_and, Bool.and_true, reduceIte, reduceCtorEq, ↓reduceIte, Nat.reduceEqDiff, show ¬ ((1 : Int32) ≤ 0) by decide]
      exact ⟨_, rfl, hR0.cd 1, rfl⟩
    · simp only [x1, if_false]
      by_cases x2 : x ≤ 60
      · simp only [x2, if_true]
        obtain ⟨n, rfl, n1, n2⟩ := rg (lo := 1) (hi := 60) x1 x2 (by omega) (by omega)
        rw [ni_nat (by omega)]
        have hK := rd_iv ls s lv n (by omega) v1 v3
        obtain ⟨g1, q1, q2, q3, q4⟩ := M_reads (m := m) (h := h) hR0 v1 v2 (n := n) (by omega) (by omega)
        rw [q1]
        generalize rd ls s lv n = z at *
        match z, hK, q2, q3 with
        | ((none, ls1, s1), lv1), hK, q2, q3 =>
          simp only [Option.isSome, Bool.false_eq_true, if_false, re_Z0, eq_self, if_true, if_false, ite_true, ite_false, bd_I, bd_V, bd_A, bd_L, re_I, re_V, Bool.true_and, Bool.and_true, reduceIte, reduceCtorEq, ↓reduceIte, Nat.reduceEqDiff, f_M_some_b45, mI_0, mP_0, mI_4, mP_4, mI_5, mP_5, mI_6, mP_6, mI_20, mP_20, mI_21, mP_21, mI_22, mP_22, mI_23, mP_23, mI_25, mP_25, mI_27, mP_27, mR_1, mG_1, mS_1, mR_2, mG_2, mS_2, mR_3, mG_3, mS_3, mR_7, mG_7, mS_7, mR_8, mG_8, mS_8, mR_9, mG_9, mS_9, mR_10, mG_10, mS_10, mR_11, mG_11, mS_11, mR_12, mG_12, mS_12, mR_13, mG_13, mS_13, mR_14, mG_14, mS_14, mR_15, mG_15, mS_15, mR_16, mG_16, mS_16, mR_17, mG_17, mS_17, mR_18, mG_18, mS_18, mR_19, mG_19, mS_19, mR_24, mG_24, mS_24, mR_26, mG_26, mS_26, mK_8, gS_1, gS_2, gA_1, gA_2, Option.bind_some, Option.bind_none, show ¬ ((2 : Int32) ≤ 0) by decide]
          exact ⟨_, rfl, q2.cd 2, rfl⟩
        | ((some bs, ls1, s1), lv1), hK, q2, q3 =>
          have hb := hK.2.2.2.2 _ rfl
          have hb1 := hb.1
          have hA := q3 _ rfl
          have hA0 : AN (gS g1 0 0) bs := ⟨hA.1, hA.2⟩
          obtain ⟨g2, p1, p2, p3, p4⟩ := M_putBag (m := m) (h := h) (q2.cd 0) hA0 (by omega) (by simp only [List.length_nil]; omega)
          simp only [Option.isSome, if_true, re_Z1, eq_self, if_true, if_false, ite_true, ite_false, bd_I, bd_V, bd_A, bd_L, re_I, re_V, Bool.true_and, Bool.and_true, reduceIte, reduceCtorEq, ↓reduceIte, Nat.reduceEqDiff, show ((1 : Int32) = 0) = False by decide, f_M_some_b45, mI_0, mP_0, mI_4, mP_4, mI_5, mP_5, mI_6, mP_6, mI_20, mP_20, mI_21, mP_21, mI_22, mP_22, mI_23, mP_23, mI_25, mP_25, mI_27, mP_27, mR_1, mG_1, mS_1, mR_2, mG_2, mS_2, mR_3, mG_3, mS_3, mR_7, mG_7, mS_7, mR_8, mG_8, mS_8, mR_9, mG_9, mS_9, mR_10, mG_10, mS_10, mR_11, mG_11, mS_11, mR_12, mG_12, mS_12, mR_13, mG_13, mS_13, mR_14, mG_14, mS_14, mR_15, mG_15, mS_15, mR_16, mG_16, mS_16, mR_17, mG_17, mS_17, mR_18, mG_18, mS_18, mR_19, mG_19, mS_19, mR_24, mG_24, mS_24, mR_26, mG_26, mS_26, mK_8, gS_1, gS_2, gA_1, gA_2, Option.bind_some, Option.bind_none, show ((0 : Int32) ≤ 0) = True by decide, p1, p3.1]
          cases bs with
          | nil => exact ⟨g2, rfl, p2, by rw [p4]; rfl⟩
          | cons x bs =>
            have m0 : ¬ (ni (x :: bs).length = 0) := niNE (b := 0) (by omega) (by omega) (by simp)
            simp only [m0, if_false, f_M_some_b76, re_I]
            exact ⟨g2, by simp, p2, by rw [p4]; rfl⟩
      · simp only [x2, if_false, f_M_some_b28, f_M_some_b45, mI_0, mP_0, mI_4, mP_4, mI_5, mP_5, mI_6, mP_6, mI_20, mP_20, mI_21, mP_21, mI_22, mP_22, mI_23, mP_23, mI_25, mP_25, mI_27, mP_27, mR_1, mG_1, mS_1, mR_2, mG_2, mS_2, mR_3, mG_3, mS_3, mR_7, mG_7, mS_7, mR_8, mG_8, mS_8, mR_9, mG_9, mS_9, mR_10, mG_10, mS_10, mR_11, mG_11, mS_11, mR_12, mG_12, mS_12, mR_13, mG_13, mS_13, mR_14, mG_14, mS_14, mR_15, mG_15, mS_15, mR_16, mG_16, mS_16, mR_17, mG_17, mS_17, mR_18, mG_18, mS_18, mR_19, mG_19, mS_19, mR_24, mG_24, mS_24, mR_26, mG_26, mS_26, mK_8, gS_1, gS_2, gA_1, gA_2, Option.bind_some, Option.bind_none, eq_self, if_true, if_false, ite_true, ite_false, bd_I, bd_V, bd_A, bd_L, re_I, re_V, Bool.true_and, Bool.and_true, reduceIte, reduceCtorEq, ↓reduceIte, Nat.reduceEqDiff, show ¬ ((1 : Int32) ≤ 0) by decide]
        exact ⟨_, rfl, hR0.cd 1, rfl⟩
  · simp only [hc, if_false, f_M_some_b45, mI_0, mP_0, mI_4, mP_4, mI_5, mP_5, mI_6, mP_6, mI_20, mP_20, mI_21, mP_21, mI_22, mP_22, mI_23, mP_23, mI_25, mP_25, mI_27, mP_27, mR_1, mG_1, mS_1, mR_2, mG_2, mS_2, mR_3, mG_3, mS_3, mR_7, mG_7, mS_7, mR_8, mG_8, mS_8, mR_9, mG_9, mS_9, mR_10, mG_10, mS_10, mR_11, mG_11, mS_11, mR_12, mG_12, mS_12, mR_13, mG_13, mS_13, mR_14, mG_14, mS_14, mR_15, mG_15, mS_15, mR_16, mG_16, mS_16, mR_17, mG_17, mS_17, mR_18, mG_18, mS_18, mR_19, mG_19, mS_19, mR_24, mG_24, mS_24, mR_26, mG_26, mS_26, mK_8, gS_1, gS_2, gA_1, gA_2, Option.bind_some, Option.bind_none, eq_self, if_true, if_false, ite_true, ite_false, bd_I, bd_V, bd_A, bd_L, re_I, re_V, Bool.true_and, Bool.and_true, reduceIte, reduceCtorEq, ↓reduceIte, Nat.reduceEqDiff, show ¬ ((2 : Int32) ≤ 0) by decide]
    exact ⟨_, rfl, hR0.cd 2, rfl⟩
