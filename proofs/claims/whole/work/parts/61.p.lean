/-! close, size, at, portion, breakAt, available, about. -/
def op_close (w : Wd_t) : Wd_t := match w with
  | (ls, s, lv, lvm, _, bag, lt) => (ls, s, lv, lvm, 1, bag, lt)
theorem T_close {b : Nat} {as : List Nat} {h : Hs_t} {w : Wd_t} (hT : RTw b as h w) : TR b h (f_T_close b h) (.inl none) (op_close w) := by
  obtain ⟨ls, s, lv, lvm, cl, bag, lt⟩ := w
  have hT : RT b as h ls s lv lvm cl bag lt := hT
  have a1 := hT.1
  rw [f_T_close]
  simp only [fd_I, fd_V, fd_A, pt_V, pt_Z, ar_I, ar_Z, ar_R, as_I, as_Z, cp_I, ln_A, ck_T, tg_O, hp_2, List.contains_cons, List.contains_nil, List.getElem?_cons_zero, List.getElem?_cons_succ, List.set_cons_succ, List.set_cons_zero, List.length_cons, List.length_nil, Option.bind_some, Option.bind_none, Nat.reduceLT, Nat.reduceAdd, Nat.reduceBEq, BEq.rfl, beq_self_eq_true, Bool.or_false, Bool.or_true, Bool.true_or, Bool.false_or, decide_true, decide_false, Bool.not_false, Bool.not_true, Nat.zero_lt_succ, Nat.lt_add_left_iff_pos, Nat.succ_ne_self, ne_eq, not_false_eq_true, eq_self, if_true, if_false, ite_true, ite_false, bd_I, bd_V, bd_A, bd_L, re_I, re_V, Bool.true_and, Bool.and_true, reduceIte, reduceCtorEq, ↓reduceIte, Nat.reduceEqDiff, a1, show is_Z 1 = true by decide]
  exact ⟨_, as, rfl, hT.own, FK.set (Or.inl (by omega))⟩
theorem M_close {m : Nat} {h : Hs_t} {g : Mg_t} {w : Wd_t} (hR : RWw g w) : MR m h (f_M_close m (MH m g h)) none 0 (op_close w) := by
  obtain ⟨ls, s, lv, lvm, cl, bag, lt⟩ := w
  have hR : RW g ls s lv lvm cl bag lt := hR
  rw [f_M_close]
  simp only [mI_0, mP_0, mI_4, mP_4, mI_5, mP_5, mI_6, mP_6, mI_20, mP_20, mI_21, mP_21, mI_22, mP_22, mI_23, mP_23, mI_25, mP_25, mI_27, mP_27, mR_1, mG_1, mS_1, mR_2, mG_2, mS_2, mR_3, mG_3, mS_3, mR_7, mG_7, mS_7, mR_8, mG_8, mS_8, mR_9, mG_9, mS_9, mR_10, mG_10, mS_10, mR_11, mG_11, mS_11, mR_12, mG_12, mS_12, mR_13, mG_13, mS_13, mR_14, mG_14, mS_14, mR_15, mG_15, mS_15, mR_16, mG_16, mS_16, mR_17, mG_17, mS_17, mR_18, mG_18, mS_18, mR_19, mG_19, mS_19, mR_24, mG_24, mS_24, mR_26, mG_26, mS_26, mK_8, gS_1, gS_2, gA_1, gA_2, Option.bind_some, Option.bind_none, eq_self, if_true, if_false, ite_true, ite_false, bd_I, bd_V, bd_A, bd_L, re_I, re_V, Bool.true_and, Bool.and_true, reduceIte, reduceCtorEq, ↓reduceIte, Nat.reduceEqDiff, show is_Z 1 = true by decide]
  obtain ⟨b1, b2, b3, b4, b5, b6, b7, b8, b9, b10⟩ := hR.cd 0
  exact ⟨gS (gS g 0 0) 21 1, rfl, ⟨RMl.congr (g := gS g 0 0) (g' := gS (gS g 0 0) 21 1) (fun k _ _ => rfl) b1, b2, b3, rfl, b5, b6, b7, b8, b9, b10⟩, rfl⟩
def op_size (w : Wd_t) (x : Int32) : Int32 := if x = 0 then ni w.2.2.2.2.2.1.length else ni w.2.2.2.2.2.2.length
theorem T_size {b : Nat} {as : List Nat} {h : Hs_t} {w : Wd_t} (hT : RTw b as h w) (x : Int32) : TR b h (f_T_size b x h) (.inl (some (.int (op_size w x)))) w := by
  obtain ⟨ls, s, lv, lvm, cl, bag, lt⟩ := w
  have hT2 : RT b as h ls s lv lvm cl bag lt := hT
  obtain ⟨a1, a2, a3, a4, a5, a6, a7, a8⟩ := hT2
  rw [f_T_size, f_T_rowOf]
  simp only [op_size]
  by_cases hx : x = 0
  · simp only [hx, if_true, fd_I, fd_V, fd_A, pt_V, pt_Z, ar_I, ar_Z, ar_R, as_I, as_Z, cp_I, ln_A, ck_T, tg_O, hp_2, List.contains_cons, List.contains_nil, List.getElem?_cons_zero, List.getElem?_cons_succ, List.set_cons_succ, List.set_cons_zero, List.length_cons, List.length_nil, Option.bind_some, Option.bind_none, Nat.reduceLT, Nat.reduceAdd, Nat.reduceBEq, BEq.rfl, beq_self_eq_true, Bool.or_false, Bool.or_true, Bool.true_or, Bool.false_or, decide_true, decide_false, Bool.not_false, Bool.not_true, Nat.zero_lt_succ, Nat.lt_add_left_iff_pos, Nat.succ_ne_self, ne_eq, not_false_eq_true, eq_self, if_true, if_false, ite_true, ite_false, bd_I, bd_V, bd_A, bd_L, re_I, re_V, Bool.true_and, Bool.and_true, reduceIte, reduceCtorEq, ↓reduceIte, Nat.reduceEqDiff, a1, f_T_rowOf_b15, re_A, a4]
    exact ⟨h, as, rfl, hT, FK.refl _ _⟩
  · simp only [hx, if_false, fd_I, fd_V, fd_A, pt_V, pt_Z, ar_I, ar_Z, ar_R, as_I, as_Z, cp_I, ln_A, ck_T, tg_O, hp_2, List.contains_cons, List.contains_nil, List.getElem?_cons_zero, List.getElem?_cons_succ, List.set_cons_succ, List.set_cons_zero, List.length_cons, List.length_nil, Option.bind_some, Option.bind_none, Nat.reduceLT, Nat.reduceAdd, Nat.reduceBEq, BEq.rfl, beq_self_eq_true, Bool.or_false, Bool.or_true, Bool.true_or, Bool.false_or, decide_true, decide_false, Bool.not_false, Bool.not_true, Nat.zero_lt_succ, Nat.lt_add_left_iff_pos, Nat.succ_ne_self, ne_eq, not_false_eq_true, eq_self, if_true, if_false, ite_true, ite_false, bd_I, bd_V, bd_A, bd_L, re_I, re_V, Bool.true_and, Bool.and_true, reduceIte, reduceCtorEq, ↓reduceIte, Nat.reduceEqDiff, a1, f_T_rowOf_b15, re_A, a6]
    exact ⟨h, as, rfl, hT, FK.refl _ _⟩
theorem M_size {m : Nat} {h : Hs_t} {g : Mg_t} {w : Wd_t} (hR : RWw g w) (x : Int32) : MR m h (f_M_size m x (MH m g h)) (some (.int (op_size w x))) 0 w := by
  obtain ⟨ls, s, lv, lvm, cl, bag, lt⟩ := w
  have hR : RW g ls s lv lvm cl bag lt := hR
  have a7 : g.1 25 = ni bag.length := hR.2.2.2.2.2.2.1
  have a9 : g.1 27 = ni lt.length := hR.2.2.2.2.2.2.2.2.1
  rw [f_M_size]
  simp only [mI_0, mP_0, mI_4, mP_4, mI_5, mP_5, mI_6, mP_6, mI_20, mP_20, mI_21, mP_21, mI_22, mP_22, mI_23, mP_23, mI_25, mP_25, mI_27, mP_27, mR_1, mG_1, mS_1, mR_2, mG_2, mS_2, mR_3, mG_3, mS_3, mR_7, mG_7, mS_7, mR_8, mG_8, mS_8, mR_9, mG_9, mS_9, mR_10, mG_10, mS_10, mR_11, mG_11, mS_11, mR_12, mG_12, mS_12, mR_13, mG_13, mS_13, mR_14, mG_14, mS_14, mR_15, mG_15, mS_15, mR_16, mG_16, mS_16, mR_17, mG_17, mS_17, mR_18, mG_18, mS_18, mR_19, mG_19, mS_19, mR_24, mG_24, mS_24, mR_26, mG_26, mS_26, mK_8, gS_1, gS_2, gA_1, gA_2, Option.bind_some, Option.bind_none, eq_self, if_true, if_false, ite_true, ite_false, bd_I, bd_V, bd_A, bd_L, re_I, re_V, Bool.true_and, Bool.and_true, reduceIte, reduceCtorEq, ↓reduceIte, Nat.reduceEqDiff, op_size, f_M_size_b20, a7, a9]
  by_cases hx : x = 0
  · simp only [hx, if_true]
    exact ⟨_, rfl, hR.cd 0, rfl⟩
  · simp only [hx, if_false]
    exact ⟨_, rfl, hR.cd 0, rfl⟩
def at_V (l : List Int32) (k : Int32) : Int32 := if k < 0 then -1 else if ni l.length ≤ k then -1 else l.getD k.toNatClampNeg 0
def op_at (w : Wd_t) (k x : Int32) : Int32 := if x = 0 then at_V w.2.2.2.2.2.1 k else at_V w.2.2.2.2.2.2 k
theorem C_at {a cap : Nat} {l : List Int32} {f : Nat → Int32} {h : Hs_t} (h0 : h.2 a = some (ce_O 1 [.ref (a + 1), .int (ni l.length)])) (h1 : h.2 (a + 1) = some (ce_I cap f)) (h2 : sl f 0 l.length = l) (hl : l.length ≤ cap) (hc : cap ≤ 160) (x : Int32) : f_Row_get a x h = re_I (at_V l x) h := by
  rw [C_get h0 h1 h2 hl hc, at_V]
  by_cases hx : x < 0
  · rw [if_pos hx, if_pos hx]
  · rw [if_neg hx, if_neg hx]
    obtain ⟨n, rfl, hn⟩ := ni_of hx
    by_cases hn2 : ni l.length ≤ ni n
    · rw [if_pos hn2, if_pos hn2]
    · have h3 : n < l.length := by
        by_cases q : l.length ≤ n
        · exact absurd (niL (by omega) hn q) hn2
        · omega
      rw [if_neg hn2, if_neg hn2, ni_nat hn, bg_at h2 h3]
theorem T_at {b : Nat} {as : List Nat} {h : Hs_t} {w : Wd_t} (hT : RTw b as h w) (hv : wv_O w) (k x : Int32) : TR b h (f_T_at b k x h) (.inl (some (.int (op_at w k x)))) w := by
  obtain ⟨ls, s, lv, lvm, cl, bag, lt⟩ := w
  have hT2 : RT b as h ls s lv lvm cl bag lt := hT
  obtain ⟨v1, v2, v3, v4, v5, v6, v7, v8⟩ := hv
  obtain ⟨a1, a2, a3, a4, ⟨f8, a5, a5'⟩, a6, ⟨f10, a7, a7'⟩, a8⟩ := hT2
  have g8 := C_at a4 a5 a5' v6 (by omega) k
  have g10 := C_at a6 a7 a7' v8 (by omega) k
  rw [f_T_at, f_T_rowOf]
  simp only [op_at]
  by_cases hx : x = 0
  · simp only [hx, if_true, fd_I, fd_V, fd_A, pt_V, pt_Z, ar_I, ar_Z, ar_R, as_I, as_Z, cp_I, ln_A, ck_T, tg_O, hp_2, List.contains_cons, List.contains_nil, List.getElem?_cons_zero, List.getElem?_cons_succ, List.set_cons_succ, List.set_cons_zero, List.length_cons, List.length_nil, Option.bind_some, Option.bind_none, Nat.reduceLT, Nat.reduceAdd, Nat.reduceBEq, BEq.rfl, beq_self_eq_true, Bool.or_false, Bool.or_true, Bool.true_or, Bool.false_or, decide_true, decide_false, Bool.not_false, Bool.not_true, Nat.zero_lt_succ, Nat.lt_add_left_iff_pos, Nat.succ_ne_self, ne_eq, not_false_eq_true, eq_self, if_true, if_false, ite_true, ite_false, bd_I, bd_V, bd_A, bd_L, re_I, re_V, Bool.true_and, Bool.and_true, reduceIte, reduceCtorEq, ↓reduceIte, Nat.reduceEqDiff, a1, f_T_rowOf_b15, re_A, a4, g8]
    exact ⟨h, as, rfl, hT, FK.refl _ _⟩
  · simp only [hx, if_false, fd_I, fd_V, fd_A, pt_V, pt_Z, ar_I, ar_Z, ar_R, as_I, as_Z, cp_I, ln_A, ck_T, tg_O, hp_2, List.contains_cons, List.contains_nil, List.getElem?_cons_zero, List.getElem?_cons_succ, List.set_cons_succ, List.set_cons_zero, List.length_cons, List.length_nil, Option.bind_some, Option.bind_none, Nat.reduceLT, Nat.reduceAdd, Nat.reduceBEq, BEq.rfl, beq_self_eq_true, Bool.or_false, Bool.or_true, Bool.true_or, Bool.false_or, decide_true, decide_false, Bool.not_false, Bool.not_true, Nat.zero_lt_succ, Nat.lt_add_left_iff_pos, Nat.succ_ne_self, ne_eq, not_false_eq_true, eq_self, if_true, if_false, ite_true, ite_false, bd_I, bd_V, bd_A, bd_L, re_I, re_V, Bool.true_and, Bool.and_true, reduceIte, reduceCtorEq, ↓reduceIte, Nat.reduceEqDiff, a1, f_T_rowOf_b15, re_A, a6, g10]
    exact ⟨h, as, rfl, hT, FK.refl _ _⟩
theorem M_at {m : Nat} {h : Hs_t} {g : Mg_t} {w : Wd_t} (hR : RWw g w) (hv : wv_O w) (k x : Int32) : MR m h (f_M_at m k x (MH m g h)) (some (.int (op_at w k x))) 0 w := by
  obtain ⟨ls, s, lv, lvm, cl, bag, lt⟩ := w
  have hR : RW g ls s lv lvm cl bag lt := hR
  obtain ⟨v1, v2, v3, v4, v5, v6, v7, v8⟩ := hv
  have v6 : bag.length ≤ 160 := v6
  have v8 : lt.length ≤ 118 := v8
  have a7 : g.1 25 = ni bag.length := hR.2.2.2.2.2.2.1
  have a8 := hR.2.2.2.2.2.2.2.1
  have a9 : g.1 27 = ni lt.length := hR.2.2.2.2.2.2.2.2.1
  have a10 := hR.2.2.2.2.2.2.2.2.2
  rw [f_M_at]
  simp only [mI_0, mP_0, mI_4, mP_4, mI_5, mP_5, mI_6, mP_6, mI_20, mP_20, mI_21, mP_21, mI_22, mP_22, mI_23, mP_23, mI_25, mP_25, mI_27, mP_27, mR_1, mG_1, mS_1, mR_2, mG_2, mS_2, mR_3, mG_3, mS_3, mR_7, mG_7, mS_7, mR_8, mG_8, mS_8, mR_9, mG_9, mS_9, mR_10, mG_10, mS_10, mR_11, mG_11, mS_11, mR_12, mG_12, mS_12, mR_13, mG_13, mS_13, mR_14, mG_14, mS_14, mR_15, mG_15, mS_15, mR_16, mG_16, mS_16, mR_17, mG_17, mS_17, mR_18, mG_18, mS_18, mR_19, mG_19, mS_19, mR_24, mG_24, mS_24, mR_26, mG_26, mS_26, mK_8, gS_1, gS_2, gA_1, gA_2, Option.bind_some, Option.bind_none, eq_self, if_true, if_false, ite_true, ite_false, bd_I, bd_V, bd_A, bd_L, re_I, re_V, Bool.true_and, Bool.and_true, reduceIte, reduceCtorEq, ↓reduceIte, Nat.reduceEqDiff, op_at, f_M_at_b28, f_M_at_b25, f_M_at_b49, a7, a9, at_V]
  by_cases hk : k < 0
  · simp only [hk, if_true, ite_self]
    exact ⟨_, rfl, hR.cd 0, rfl⟩
  · simp only [hk, if_false]
    obtain ⟨n, rfl, hn⟩ := ni_of hk
    have h5 : (ni n).toNatClampNeg = n := ni_nat hn
    by_cases hx : x = 0
    · simp only [hx, if_true, h5]
      by_cases h3 : n < bag.length
      · rw [if_pos (niT hn (by omega) h3), if_neg (niNL (by omega) hn h3)]
        simp only [ni_in_t hn (show n < 600 by omega), if_true, Option.bind_some, bg_at a8 h3]
        exact ⟨_, rfl, hR.cd 0, rfl⟩
      · rw [if_neg (niNT hn (by omega) (by omega)), if_pos (niL (by omega) hn (by omega))]
        exact ⟨_, rfl, hR.cd 0, rfl⟩
    · simp only [hx, if_false, h5]
      by_cases h3 : n < lt.length
      · rw [if_pos (niT hn (by omega) h3), if_neg (niNL (by omega) hn h3)]
        simp only [ni_in_t hn (show n < 120 by omega), if_true, Option.bind_some, bg_at a10 h3]
        exact ⟨_, rfl, hR.cd 0, rfl⟩
      · rw [if_neg (niNT hn (by omega) (by omega)), if_pos (niL (by omega) hn (by omega))]
        exact ⟨_, rfl, hR.cd 0, rfl⟩
theorem RT.src {b : Nat} {as : List Nat} {h h' : Hs_t} {ls : List Ly_t} {s s' : Sr_t} {lv lvm cl : Int32} {bag lt : List Int32} (hT : RT b as h ls s lv lvm cl bag lt) (hS : RSc b h' s') (h4 : h'.1 = h.1) (hq : ∀ q, (q < b + 1 ∨ b + 4 < q) → h'.2 q = h.2 q) : RT b as h' ls s' lv lvm cl bag lt := by
  obtain ⟨a1, a2, a3, a4, a5, a6, a7, a8, a9, a10, a11, a12⟩ := hT
  refine ⟨?_, ?_, ?_, ?_, ?_, ?_, ?_, a8.frame a10 fun q q1 q2 => hq q (by omega), hS, a10, a11, by rw [h4]; exact a12⟩
  · rw [hq _ (by omega)]; exact a1
  · rw [hq _ (by omega)]; exact a2
  · rw [hq _ (by omega)]; exact a3
  · rw [hq _ (by omega)]; exact a4
  · rw [hq _ (by omega)]; exact a5
  · rw [hq _ (by omega)]; exact a6
  · rw [hq _ (by omega)]; exact a7
def op_portion (w : Wd_t) : Wd_t := match w with
  | (ls, (f, bg, br, c, t), r) => (ls, (f, upd bg c 1, br, c, t), r)
theorem T_portion {b : Nat} {as : List Nat} {h : Hs_t} {w : Wd_t} (hT : RTw b as h w) (hv : wv_O w) : TR b h (f_T_portion b h) (.inl none) (op_portion w) := by
  obtain ⟨ls, ⟨f, bg, br, c, t⟩, lv, lvm, cl, bag, lt⟩ := w
  have hT : RT b as h ls (f, bg, br, c, t) lv lvm cl bag lt := hT
  have hs := iv_sr hv.1
  have o2 : c ≤ 120 := hs.2.1
  have a1 := hT.1
  obtain ⟨s1, s2, ⟨f3, s3, s3'⟩, s4⟩ := hT.2.2.2.2.2.2.2.2.1
  have s1 : h.2 (b + 1) = some (ce_O 2 [.ref (b + 2), .ref (b + 3), .ref (b + 4), .int (ni c), .int (ni t)]) := s1
  have h3 : in_R (ni c) 121 = true := ni_in_t (by omega) (by omega)
  have h5 : (ni c).toNatClampNeg = c := ni_nat (by omega)
  rw [f_T_portion]
  simp only [f_Src_startPortion, fd_I, fd_V, fd_A, pt_V, pt_Z, ar_I, ar_Z, ar_R, as_I, as_Z, cp_I, ln_A, ck_T, tg_O, hp_2, List.contains_cons, List.contains_nil, List.getElem?_cons_zero, List.getElem?_cons_succ, List.set_cons_succ, List.set_cons_zero, List.length_cons, List.length_nil, Option.bind_some, Option.bind_none, Nat.reduceLT, Nat.reduceAdd, Nat.reduceBEq, BEq.rfl, beq_self_eq_true, Bool.or_false, Bool.or_true, Bool.true_or, Bool.false_or, decide_true, decide_false, Bool.not_false, Bool.not_true, Nat.zero_lt_succ, Nat.lt_add_left_iff_pos, Nat.succ_ne_self, ne_eq, not_false_eq_true, eq_self, if_true, if_false, ite_true, ite_false, bd_I, bd_V, bd_A, bd_L, re_I, re_V, Bool.true_and, Bool.and_true, reduceIte, reduceCtorEq, ↓reduceIte, Nat.reduceEqDiff, a1, s1, s3, h3, h5, show is_Z 1 = true by decide]
  refine ⟨_, as, rfl, ?_, FK.set (Or.inl (by omega))⟩
  refine hT.src (s' := (f, upd bg c 1, br, c, t)) ⟨?_, ?_, ⟨upd f3 c 1, hp_at _ _ _, fun j hj => ?_⟩, ?_⟩ rfl (fun q hq => hp_ne _ _ _ _ (by omega))
  · rw [hp_ne _ _ _ _ (by omega)]; exact s1
  · rw [hp_ne _ _ _ _ (by omega)]; exact s2
  · simp only [upd]; split
    · rfl
    · exact s3' j hj
  · rw [hp_ne _ _ _ _ (by omega)]; exact s4
theorem M_portion {m : Nat} {h : Hs_t} {g : Mg_t} {w : Wd_t} (hR : RWw g w) (hv : wv_O w) : MR m h (f_M_portion m (MH m g h)) none 0 (op_portion w) := by
  obtain ⟨ls, ⟨f, bg, br, c, t⟩, lv, lvm, cl, bag, lt⟩ := w
  have hR : RW g ls (f, bg, br, c, t) lv lvm cl bag lt := hR
  have hs := iv_sr hv.1
  have o2 : c ≤ 120 := hs.2.1
  have h3 : in_R (ni c) 121 = true := ni_in_t (by omega) (by omega)
  have h5 : (ni c).toNatClampNeg = c := ni_nat (by omega)
  have e4 : g.1 4 = ni c := hR.2.1.2.2.2.1
  rw [f_M_portion]
  simp only [mI_0, mP_0, mI_4, mP_4, mI_5, mP_5, mI_6, mP_6, mI_20, mP_20, mI_21, mP_21, mI_22, mP_22, mI_23, mP_23, mI_25, mP_25, mI_27, mP_27, mR_1, mG_1, mS_1, mR_2, mG_2, mS_2, mR_3, mG_3, mS_3, mR_7, mG_7, mS_7, mR_8, mG_8, mS_8, mR_9, mG_9, mS_9, mR_10, mG_10, mS_10, mR_11, mG_11, mS_11, mR_12, mG_12, mS_12, mR_13, mG_13, mS_13, mR_14, mG_14, mS_14, mR_15, mG_15, mS_15, mR_16, mG_16, mS_16, mR_17, mG_17, mS_17, mR_18, mG_18, mS_18, mR_19, mG_19, mS_19, mR_24, mG_24, mS_24, mR_26, mG_26, mS_26, mK_8, gS_1, gS_2, gA_1, gA_2, Option.bind_some, Option.bind_none, eq_self, if_true, if_false, ite_true, ite_false, bd_I, bd_V, bd_A, bd_L, re_I, re_V, Bool.true_and, Bool.and_true, reduceIte, reduceCtorEq, ↓reduceIte, Nat.reduceEqDiff, e4, h3, h5, show is_Z 1 = true by decide]
  obtain ⟨b1, b2, b3, b4, b5, b6, b7, b8, b9, b10⟩ := hR.cd 0
  refine ⟨gA (gS g 0 0) 2 (upd (g.2 2) c 1), rfl, ⟨b1.congr fun k k1 k2 => by simp only [gA_2]; rw [if_neg (by omega)], ⟨b2.1, fun j hj => ?_, b2.2.2⟩, b3, b4, b5, b6, b7, b8, b9, b10⟩, rfl⟩
  show upd (g.2 2) c 1 j = upd bg c 1 j
  simp only [upd]
  split
  · rfl
  · exact b2.2.1 j hj
def op_break (w : Wd_t) (x : Int32) : Int32 × Wd_t := match w with
  | (ls, (f, bg, br, c, t), r) => if x = -1 then (1, (ls, (f, bg, (fun j => if j < 121 then 0 else br j), c, t), r)) else if x < 0 then (0, (ls, (f, bg, br, c, t), r)) else if x ≤ 120 then (1, (ls, (f, bg, upd br x.toNatClampNeg 1, c, t), r)) else (0, (ls, (f, bg, br, c, t), r))
theorem T_mend (b : Nat) (s1 : Value) (n1 n2 : Int32) (d : Nat) : ∀ (i F : Nat) (f4 : Nat → Int32) (h : Hs_t), i + d = 121 → h.2 (b + 1) = some (ce_O 2 [.ref (b + 2), .ref (b + 3), .ref (b + 4), .int n1, .int n2]) → h.2 (b + 4) = some (ce_Z 121 f4) → ∃ h', f_Src_mend_b2 (F + d + 1) (b + 1) (ni i) h = re_V h' ∧ h'.2 (b + 4) = some (ce_Z 121 (fun j => if i ≤ j ∧ j < 121 then 0 else f4 j)) ∧ h'.1 = h.1 ∧ ∀ q, q ≠ b + 4 → h'.2 q = h.2 q := by
  induction d with
  | zero =>
    intro i F f4 h hi h1 h4
    rw [f_Src_mend_b2]
    simp only [fd_I, fd_V, fd_A, pt_V, pt_Z, ar_I, ar_Z, ar_R, as_I, as_Z, cp_I, ln_A, ck_T, tg_O, hp_2, List.contains_cons, List.contains_nil, List.getElem?_cons_zero, List.getElem?_cons_succ, List.set_cons_succ, List.set_cons_zero, List.length_cons, List.length_nil, Option.bind_some, Option.bind_none, Nat.reduceLT, Nat.reduceAdd, Nat.reduceBEq, BEq.rfl, beq_self_eq_true, Bool.or_false, Bool.or_true, Bool.true_or, Bool.false_or, decide_true, decide_false, Bool.not_false, Bool.not_true, Nat.zero_lt_succ, Nat.lt_add_left_iff_pos, Nat.succ_ne_self, ne_eq, not_false_eq_true, eq_self, if_true, if_false, ite_true, ite_false, bd_I, bd_V, bd_A, bd_L, re_I, re_V, Bool.true_and, Bool.and_true, reduceIte, reduceCtorEq, ↓reduceIte, Nat.reduceEqDiff, h1, h4]
    rw [if_pos (show Int32.ofNat 121 ≤ ni i from niL (a := 121) (by omega) (by omega) (by omega))]
    refine ⟨h, rfl, ?_, rfl, fun _ _ => rfl⟩
    rw [h4]; congr 4; funext j; rw [if_neg (by omega)]
  | succ d ih =>
    intro i F f4 h hi h1 h4
    have r1 : in_R (ni i) 121 = true := ni_in_t (by omega) (by omega)
    have r2 : (ni i).toNatClampNeg = i := ni_nat (by omega)
    rw [show F + (d + 1) + 1 = (F + d + 1) + 1 by omega, f_Src_mend_b2]
    simp only [fd_I, fd_V, fd_A, pt_V, pt_Z, ar_I, ar_Z, ar_R, as_I, as_Z, cp_I, ln_A, ck_T, tg_O, hp_2, List.contains_cons, List.contains_nil, List.getElem?_cons_zero, List.getElem?_cons_succ, List.set_cons_succ, List.set_cons_zero, List.length_cons, List.length_nil, Option.bind_some, Option.bind_none, Nat.reduceLT, Nat.reduceAdd, Nat.reduceBEq, BEq.rfl, beq_self_eq_true, Bool.or_false, Bool.or_true, Bool.true_or, Bool.false_or, decide_true, decide_false, Bool.not_false, Bool.not_true, Nat.zero_lt_succ, Nat.lt_add_left_iff_pos, Nat.succ_ne_self, ne_eq, not_false_eq_true, eq_self, if_true, if_false, ite_true, ite_false, bd_I, bd_V, bd_A, bd_L, re_I, re_V, Bool.true_and, Bool.and_true, reduceIte, reduceCtorEq, ↓reduceIte, Nat.reduceEqDiff, h1, h4]
    rw [if_neg (show ¬ Int32.ofNat 121 ≤ ni i from niNL (a := 121) (by omega) (by omega) (by omega))]
    simp only [r1, r2, show is_Z 0 = true by decide, fd_I, fd_V, fd_A, pt_V, pt_Z, ar_I, ar_Z, ar_R, as_I, as_Z, cp_I, ln_A, ck_T, tg_O, hp_2, List.contains_cons, List.contains_nil, List.getElem?_cons_zero, List.getElem?_cons_succ, List.set_cons_succ, List.set_cons_zero, List.length_cons, List.length_nil, Option.bind_some, Option.bind_none, Nat.reduceLT, Nat.reduceAdd, Nat.reduceBEq, BEq.rfl, beq_self_eq_true, Bool.or_false, Bool.or_true, Bool.true_or, Bool.false_or, decide_true, decide_false, Bool.not_false, Bool.not_true, Nat.zero_lt_succ, Nat.lt_add_left_iff_pos, Nat.succ_ne_self, ne_eq, not_false_eq_true, eq_self, if_true, if_false, ite_true, ite_false, bd_I, bd_V, bd_A, bd_L, re_I, re_V, Bool.true_and, Bool.and_true, reduceIte, reduceCtorEq, ↓reduceIte, Nat.reduceEqDiff, ni_p1]
    obtain ⟨h', e1, e2, e3, e4⟩ := ih (i + 1) F (upd f4 i 0) (hp_S h (b + 4) (ce_Z 121 (upd f4 i 0))) (by omega) (by rw [hp_ne _ _ _ _ (by omega)]; exact h1) (hp_at _ _ _)
    refine ⟨h', e1, ?_, by rw [e3]; rfl, fun q hq => by rw [e4 q hq, hp_ne _ _ _ _ hq]⟩
    rw [e2]; congr 4; funext j; simp only [upd]
    by_cases q1 : i + 1 ≤ j ∧ j < 121
    · rw [if_pos q1, if_pos (by omega)]
    · rw [if_neg q1]
      by_cases q2 : j = i
      · rw [if_pos q2, if_pos (by omega)]
      · rw [if_neg q2, if_neg (by omega)]
theorem T_break {b : Nat} {as : List Nat} {h : Hs_t} {w : Wd_t} (hT : RTw b as h w) (x : Int32) : TR b h (f_T_breakAt b x h) (.inl (some (.int (op_break w x).1))) (op_break w x).2 := by
  obtain ⟨ls, ⟨f, bg, br, c, t⟩, lv, lvm, cl, bag, lt⟩ := w
  have hT : RT b as h ls (f, bg, br, c, t) lv lvm cl bag lt := hT
  have a1 := hT.1
  obtain ⟨s1, s2, ⟨f3, s3, s3'⟩, s4⟩ := hT.2.2.2.2.2.2.2.2.1
  have s1 : h.2 (b + 1) = some (ce_O 2 [.ref (b + 2), .ref (b + 3), .ref (b + 4), .int (ni c), .int (ni t)]) := s1
  have s4 : h.2 (b + 4) = some (ce_Z 121 br) := s4
  rw [f_T_breakAt]
  simp only [op_break]
  by_cases hx : x = -1
  · simp only [hx, if_true]
    obtain ⟨h', e1, e2, e3, e4⟩ := T_mend b .null (ni c) (ni t) 121 0 (fu_N - 122) br h rfl s1 s4
    rw [show fu_N - 122 + 121 + 1 = fu_N from rfl] at e1
    have e1 : f_Src_mend (b + 1) h = re_V h' := e1
    simp only [fd_I, fd_V, fd_A, pt_V, pt_Z, ar_I, ar_Z, ar_R, as_I, as_Z, cp_I, ln_A, ck_T, tg_O, hp_2, List.contains_cons, List.contains_nil, List.getElem?_cons_zero, List.getElem?_cons_succ, List.set_cons_succ, List.set_cons_zero, List.length_cons, List.length_nil, Option.bind_some, Option.bind_none, Nat.reduceLT, Nat.reduceAdd, Nat.reduceBEq, BEq.rfl, beq_self_eq_true, Bool.or_false, Bool.or_true, Bool.true_or, Bool.false_or, decide_true, decide_false, Bool.not_false, Bool.not_true, Nat.zero_lt_succ, Nat.lt_add_left_iff_pos, Nat.succ_ne_self, ne_eq, not_false_eq_true, eq_self, if_true, if_false, ite_true, ite_false, bd_I, bd_V, bd_A, bd_L, re_I, re_V, Bool.true_and, Bool.and_true, reduceIte, reduceCtorEq, ↓reduceIte, Nat.reduceEqDiff, a1, s1, e1, re_Z1]
    refine ⟨h', as, rfl, hT.src (s' := (f, bg, (fun j => if j < 121 then 0 else br j), c, t)) ⟨?_, ?_, ⟨f3, ?_, s3'⟩, ?_⟩ e3 (fun q hq => e4 q (by omega)), fun q q1 q2 => e4 q (by omega)⟩
    · rw [e4 _ (by omega)]; exact s1
    · rw [e4 _ (by omega)]; exact s2
    · rw [e4 _ (by omega)]; exact s3
    · rw [e2]; congr 4; funext j
      show (if 0 ≤ j ∧ j < 121 then (0 : Int32) else br j) = (if j < 121 then 0 else br j)
      by_cases q : j < 121
      · rw [if_pos q, if_pos (by omega)]
      · rw [if_neg q, if_neg (by omega)]
  · simp only [hx, if_false, fd_I, fd_V, fd_A, pt_V, pt_Z, ar_I, ar_Z, ar_R, as_I, as_Z, cp_I, ln_A, ck_T, tg_O, hp_2, List.contains_cons, List.contains_nil, List.getElem?_cons_zero, List.getElem?_cons_succ, List.set_cons_succ, List.set_cons_zero, List.length_cons, List.length_nil, Option.bind_some, Option.bind_none, Nat.reduceLT, Nat.reduceAdd, Nat.reduceBEq, BEq.rfl, beq_self_eq_true, Bool.or_false, Bool.or_true, Bool.true_or, Bool.false_or, decide_true, decide_false, Bool.not_false, Bool.not_true, Nat.zero_lt_succ, Nat.lt_add_left_iff_pos, Nat.succ_ne_self, ne_eq, not_false_eq_true, eq_self, if_true, if_false, ite_true, ite_false, bd_I, bd_V, bd_A, bd_L, re_I, re_V, Bool.true_and, Bool.and_true, reduceIte, reduceCtorEq, ↓reduceIte, Nat.reduceEqDiff, a1, s1, f_Src_breakPlace, f_Src_breakPlace_b13]
    by_cases h0 : x < 0
    · simp only [h0, if_true, re_Z0]
      exact ⟨h, as, rfl, hT, FK.refl _ _⟩
    · simp only [h0, if_false, s4, Option.bind_some]
      obtain ⟨n, rfl, hn⟩ := ni_of h0
      by_cases h2 : n ≤ 120
      · have r1 : in_R (ni n) 121 = true := ni_in_t (by omega) (by omega)
        have r2 : (ni n).toNatClampNeg = n := ni_nat (by omega)
        rw [if_pos (show ni n < Int32.ofNat 121 from niT (b := 121) hn (by omega) (by omega)), if_pos (show ni n ≤ 120 from niL (b := 120) hn (by omega) h2)]
        simp only [r1, r2, show is_Z 1 = true by decide, fd_I, fd_V, fd_A, pt_V, pt_Z, ar_I, ar_Z, ar_R, as_I, as_Z, cp_I, ln_A, ck_T, tg_O, hp_2, List.contains_cons, List.contains_nil, List.getElem?_cons_zero, List.getElem?_cons_succ, List.set_cons_succ, List.set_cons_zero, List.length_cons, List.length_nil, Option.bind_some, Option.bind_none, Nat.reduceLT, Nat.reduceAdd, Nat.reduceBEq, BEq.rfl, beq_self_eq_true, Bool.or_false, Bool.or_true, Bool.true_or, Bool.false_or, decide_true, decide_false, Bool.not_false, Bool.not_true, Nat.zero_lt_succ, Nat.lt_add_left_iff_pos, Nat.succ_ne_self, ne_eq, not_false_eq_true, eq_self, if_true, if_false, ite_true, ite_false, bd_I, bd_V, bd_A, bd_L, re_I, re_V, Bool.true_and, Bool.and_true, reduceIte, reduceCtorEq, ↓reduceIte, Nat.reduceEqDiff, re_Z1]
        refine ⟨_, as, rfl, hT.src (s' := (f, bg, upd br n 1, c, t)) ⟨?_, ?_, ⟨f3, ?_, s3'⟩, hp_at _ _ _⟩ rfl (fun q hq => hp_ne _ _ _ _ (by omega)), FK.set (Or.inl (by omega))⟩
        · rw [hp_ne _ _ _ _ (by omega)]; exact s1
        · rw [hp_ne _ _ _ _ (by omega)]; exact s2
        · rw [hp_ne _ _ _ _ (by omega)]; exact s3
      · rw [if_neg (show ¬ ni n < Int32.ofNat 121 from niNT (b := 121) hn (by omega) (by omega)), if_neg (show ¬ ni n ≤ 120 from niNL (b := 120) hn (by omega) (by omega))]
        simp only [re_Z0]
        exact ⟨h, as, rfl, hT, FK.refl _ _⟩
theorem M_mend (m : Nat) (h : Hs_t) (d : Nat) : ∀ (i F : Nat) (g : Mg_t), i + d = 121 → f_M_breakAt_b33 (F + d + 1) m (ni i) (MH m g h) = re_Z 1 (MH m (gA g 3 (fun j => if i ≤ j ∧ j < 121 then 0 else g.2 3 j)) h) := by
  induction d with
  | zero =>
    intro i F g hi
    rw [f_M_breakAt_b33, if_pos (show (120 : Int32) < ni i from niT (a := 120) (by omega) (by omega) (by omega))]
    congr 2
    rw [show (fun j => if i ≤ j ∧ j < 121 then (0 : Int32) else g.2 3 j) = g.2 3 by funext j; rw [if_neg (by omega)], gA_self]
  | succ d ih =>
    intro i F g hi
    have r1 : in_R (ni i) 121 = true := ni_in_t (by omega) (by omega)
    have r2 : (ni i).toNatClampNeg = i := ni_nat (by omega)
    rw [show F + (d + 1) + 1 = (F + d + 1) + 1 by omega, f_M_breakAt_b33, if_neg (show ¬ (120 : Int32) < ni i from niNT (a := 120) (by omega) (by omega) (by omega))]
    simp only [mI_0, mP_0, mI_4, mP_4, mI_5, mP_5, mI_6, mP_6, mI_20, mP_20, mI_21, mP_21, mI_22, mP_22, mI_23, mP_23, mI_25, mP_25, mI_27, mP_27, mR_1, mG_1, mS_1, mR_2, mG_2, mS_2, mR_3, mG_3, mS_3, mR_7, mG_7, mS_7, mR_8, mG_8, mS_8, mR_9, mG_9, mS_9, mR_10, mG_10, mS_10, mR_11, mG_11, mS_11, mR_12, mG_12, mS_12, mR_13, mG_13, mS_13, mR_14, mG_14, mS_14, mR_15, mG_15, mS_15, mR_16, mG_16, mS_16, mR_17, mG_17, mS_17, mR_18, mG_18, mS_18, mR_19, mG_19, mS_19, mR_24, mG_24, mS_24, mR_26, mG_26, mS_26, mK_8, gS_1, gS_2, gA_1, gA_2, Option.bind_some, Option.bind_none, eq_self, if_true, if_false, ite_true, ite_false, bd_I, bd_V, bd_A, bd_L, re_I, re_V, Bool.true_and, Bool.and_true, reduceIte, reduceCtorEq, ↓reduceIte, Nat.reduceEqDiff, r1, r2, show is_Z 0 = true by decide, ni_p1]
    rw [ih (i + 1) F _ (by omega), gA_gA]
    congr 3
    funext j; simp only [gA_2, if_true, upd]
    by_cases q1 : i + 1 ≤ j ∧ j < 121
    · rw [if_pos q1, if_pos (by omega)]
    · rw [if_neg q1]
      by_cases q2 : j = i
      · rw [if_pos q2, if_pos (by omega)]
      · rw [if_neg q2, if_neg (by omega)]
theorem M_break {m : Nat} {h : Hs_t} {g : Mg_t} {w : Wd_t} (hR : RWw g w) (x : Int32) : MR m h (f_M_breakAt m x (MH m g h)) (some (.int (op_break w x).1)) 0 (op_break w x).2 := by
  obtain ⟨ls, ⟨f, bg, br, c, t⟩, lv, lvm, cl, bag, lt⟩ := w
  have hR : RW g ls (f, bg, br, c, t) lv lvm cl bag lt := hR
  have hR0 := hR.cd 0
  have hbr : ∀ f3 : Nat → Int32, RW (gA (gS g 0 0) 3 f3) ls (f, bg, f3, c, t) lv lvm cl bag lt := by
    intro f3
    obtain ⟨b1, b2, b3, b4, b5, b6, b7, b8, b9, b10⟩ := hR0
    exact ⟨b1.congr fun k k1 k2 => by simp only [gA_2]; rw [if_neg (by omega)], ⟨b2.1, b2.2.1, rfl, b2.2.2.2⟩, b3, b4, b5, b6, b7, b8, b9, b10⟩
  have e3 : g.2 3 = br := hR.2.1.2.2.1
  rw [f_M_breakAt]
  simp only [mI_0, mP_0, mI_4, mP_4, mI_5, mP_5, mI_6, mP_6, mI_20, mP_20, mI_21, mP_21, mI_22, mP_22, mI_23, mP_23, mI_25, mP_25, mI_27, mP_27, mR_1, mG_1, mS_1, mR_2, mG_2, mS_2, mR_3, mG_3, mS_3, mR_7, mG_7, mS_7, mR_8, mG_8, mS_8, mR_9, mG_9, mS_9, mR_10, mG_10, mS_10, mR_11, mG_11, mS_11, mR_12, mG_12, mS_12, mR_13, mG_13, mS_13, mR_14, mG_14, mS_14, mR_15, mG_15, mS_15, mR_16, mG_16, mS_16, mR_17, mG_17, mS_17, mR_18, mG_18, mS_18, mR_19, mG_19, mS_19, mR_24, mG_24, mS_24, mR_26, mG_26, mS_26, mK_8, gS_1, gS_2, gA_1, gA_2, Option.bind_some, Option.bind_none, eq_self, if_true, if_false, ite_true, ite_false, bd_I, bd_V, bd_A, bd_L, re_I, re_V, Bool.true_and, Bool.and_true, reduceIte, reduceCtorEq, ↓reduceIte, Nat.reduceEqDiff, op_break, f_M_breakAt_b16]
  by_cases hx : x = -1
  · subst hx
    have e1 := M_mend m h 121 0 (fu_N - 122) (gS g 0 0) rfl
    rw [show fu_N - 122 + 121 + 1 = fu_N from rfl] at e1
    simp only [show ¬ ((-1 : Int32) < -1) by decide, show ((-1 : Int32) ≤ 120) = True by decide, show ((-1 : Int32) < 0) = True by decide, if_true, if_false]
    rw [show f_M_breakAt_b33 fu_N m 0 (MH m (gS g 0 0) h) = _ from e1]
    refine ⟨_, rfl, ?_, rfl⟩
    have := hbr (fun j => if 0 ≤ j ∧ j < 121 then 0 else (gS g 0 0).2 3 j)
    have e : (fun j => if 0 ≤ j ∧ j < 121 then (0 : Int32) else (gS g 0 0).2 3 j) = (fun j => if j < 121 then 0 else br j) := by
      funext j; simp only [gS_2, e3]
      by_cases q : j < 121
      · rw [if_pos q, if_pos (by omega)]
      · rw [if_neg q, if_neg (by omega)]
    rw [e] at this
    rw [e]
    exact this
  · simp only [hx, if_false]
    by_cases h0 : x < 0
    · have hm : x < -1 := by
        rw [Int32.lt_iff_toInt_lt] at *
        have e1 : (0 : Int32).toInt = 0 := by decide
        have e2 : (-1 : Int32).toInt = -1 := by decide
        have e3 : x.toInt ≠ -1 := fun e => hx (Int32.toInt.inj (by rw [e, e2]))
        omega
      simp only [h0, hm, if_true]
      exact ⟨_, rfl, hR0, rfl⟩
    · have hm : ¬ x < -1 := by
        rw [Int32.lt_iff_toInt_lt] at *
        have e1 : (0 : Int32).toInt = 0 := by decide
        have e2 : (-1 : Int32).toInt = -1 := by decide
        omega
      simp only [h0, hm, if_false]
      obtain ⟨n, rfl, hn⟩ := ni_of h0
      by_cases h2 : n ≤ 120
      · have r1 : in_R (ni n) 121 = true := ni_in_t (by omega) (by omega)
        have r2 : (ni n).toNatClampNeg = n := ni_nat (by omega)
        rw [if_pos (show ni n ≤ 120 from niL (b := 120) hn (by omega) h2), if_pos (show ni n ≤ 120 from niL (b := 120) hn (by omega) h2)]
        simp only [r1, r2, show is_Z 1 = true by decide, eq_self, if_true, if_false, ite_true, ite_false, bd_I, bd_V, bd_A, bd_L, re_I, re_V, Bool.true_and, Bool.and_true, reduceIte, reduceCtorEq, ↓reduceIte, Nat.reduceEqDiff, Option.bind_some, e3]
        exact ⟨_, rfl, hbr _, rfl⟩
      · rw [if_neg (show ¬ ni n ≤ 120 from niNL (b := 120) hn (by omega) (by omega)), if_neg (show ¬ ni n ≤ 120 from niNL (b := 120) hn (by omega) (by omega))]
        exact ⟨_, rfl, hR0, rfl⟩
