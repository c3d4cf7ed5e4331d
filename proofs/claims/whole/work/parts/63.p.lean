/-! feed, unread, push. -/
theorem RLm.idx {g g' : Mg_t} {l : Nat} {L : Ly_t} (h : RLm g l L) (hO : ly_O L) (e : ∀ k, 7 ≤ k → k ≤ 17 → k ≠ 13 → g'.2 k l = g.2 k l) (e13 : ∀ j, 64 * l ≤ j → j < 64 * l + 64 → g'.2 13 j = g.2 13 j) : RLm g' l L := by
  have e7 := e 7 (by omega) (by omega) (by omega); have e8 := e 8 (by omega) (by omega) (by omega); have e9 := e 9 (by omega) (by omega) (by omega); have e10 := e 10 (by omega) (by omega) (by omega); have e11 := e 11 (by omega) (by omega) (by omega); have e12 := e 12 (by omega) (by omega) (by omega); have e14 := e 14 (by omega) (by omega) (by omega); have e15 := e 15 (by omega) (by omega) (by omega); have e16 := e 16 (by omega) (by omega) (by omega); have e17 := e 17 (by omega) (by omega) (by omega)
  match L, h, hO with
  | .inl (rm, kp, tg, mq), h, hO =>
    obtain ⟨a1, a2, a3, a4, a5, a6, a7⟩ := h
    have h5 := hO.2.2.2.2.1
    have h6 := hO.2.1
    refine ⟨by rw [e7]; exact a1, by rw [e8]; exact a2, by rw [e14]; exact a3, by rw [e15]; exact a4, (sl_congr fun k hk => e13 _ (by omega) (by omega)).trans a5, (sl_congr fun k hk => e13 _ (by omega) (by omega)).trans a6, by rw [e16, e17]; exact a7⟩
  | .inr (.inl (rm, st)), h, hO =>
    obtain ⟨a1, a2, a3, a4⟩ := h
    have h5 := hO.2.2.2
    have h6 := hO.2.1
    exact ⟨by rw [e7]; exact a1, by rw [e8]; exact a2, by rw [e14]; exact a3, (sl_congr fun k hk => e13 _ (by omega) (by omega)).trans a4⟩
  | .inr (.inr (.inl (lf, lm))), h, hO => simp only [RLm, e7, e8, e9, e10, e11, e12]; exact h
  | .inr (.inr (.inr (.inl (key, cd, cm)))), h, hO => simp only [RLm, e7, e8, e9, e10, e11, e12]; exact h
  | .inr (.inr (.inr (.inr (a, em, cr, crm)))), h, hO => simp only [RLm, e7, e8, e9, e10, e11, e12]; exact h
theorem RMl.idx {g g' : Mg_t} {s : Sr_t} {n : Nat} (e : ∀ k, 7 ≤ k → k ≤ 17 → k ≠ 13 → ∀ i, i < n → g'.2 k i = g.2 k i) (e13 : ∀ j, j < 64 * n → g'.2 13 j = g.2 13 j) : ∀ {ls : List Ly_t}, iv_O ls s → ls.length ≤ n → RMl g ls → RMl g' ls
  | [], _, _, _ => trivial
  | L :: ls, hv, hn, h => by
    have hn' : ls.length + 1 ≤ n := hn
    exact ⟨h.1.idx hv.1 (fun k k1 k2 k3 => e k k1 k2 k3 _ (by omega)) (fun j j1 j2 => e13 j (by omega)), RMl.idx e e13 hv.2.2 (by omega) h.2⟩
def fdl (v : Int32) : Nat → Sr_t → Sr_t
  | 0, s => s
  | k + 1, (f, bg, br, c, t) => fdl v k (upd f c ((v >>> ((8 * ni k) &&& 31)) &&& 255), bg, br, c + 1, t)
def op_feed (w : Wd_t) (v x : Int32) : (Option Value ⊕ Nat) × Wd_t := match w with
  | (ls, s, r) => if x < 1 then (.inr 9, (ls, s, r)) else if x ≤ 4 then (if s.2.2.2.1 + x.toNatClampNeg ≤ 120 then (.inl (some (.int (ni (s.2.2.2.1 + x.toNatClampNeg)))), (ls, fdl v x.toNatClampNeg s, r)) else (.inr 10, (ls, s, r))) else (.inr 9, (ls, s, r))
theorem T_fdl (b : Nat) (as : List Nat) (ls : List Ly_t) (lv lvm cl : Int32) (bag lt : List Int32) (v : Int32) (k : Nat) : ∀ (F : Nat) (h : Hs_t) (s : Sr_t), RT b as h ls s lv lvm cl bag lt → k ≤ 4 → s.2.2.2.1 + k ≤ 120 → ∃ h', f_T_feed_b41 (F + k + 1) b v (ni k - 1) h = re_I (ni (s.2.2.2.1 + k)) h' ∧ RT b as h' ls (fdl v k s) lv lvm cl bag lt ∧ FK b h h' := by
  induction k with
  | zero =>
    intro F h s hT hk hc
    have a1 := hT.1
    have s1 := hT.2.2.2.2.2.2.2.2.1.1
    rw [f_T_feed_b41, if_pos (show ni 0 - 1 < 0 by decide)]
    simp only [fd_I, fd_V, fd_A, pt_V, pt_Z, ar_I, ar_Z, ar_R, as_I, as_Z, cp_I, ln_A, ck_T, tg_O, hp_2, List.contains_cons, List.contains_nil, List.getElem?_cons_zero, List.getElem?_cons_succ, List.set_cons_succ, List.set_cons_zero, List.length_cons, List.length_nil, Option.bind_some, Option.bind_none, Nat.reduceLT, Nat.reduceAdd, Nat.reduceBEq, BEq.rfl, beq_self_eq_true, Bool.or_false, Bool.or_true, Bool.true_or, Bool.false_or, decide_true, decide_false, Bool.not_false, Bool.not_true, Nat.zero_lt_succ, Nat.lt_add_left_iff_pos, Nat.succ_ne_self, ne_eq, not_false_eq_true, eq_self, if_true, if_false, ite_true, ite_false, bd_I, bd_V, bd_A, bd_L, re_I, re_V, Bool.true_and, Bool.and_true, reduceIte, reduceCtorEq, ↓reduceIte, Nat.reduceEqDiff, a1, s1]
    exact ⟨h, rfl, hT, FK.refl _ _⟩
  | succ k ih =>
    intro F h s hT hk hc
    obtain ⟨f, bg, br, c, t⟩ := s
    have hc : c + (k + 1) ≤ 120 := hc
    have a1 := hT.1
    obtain ⟨s1, s2, ⟨f3, s3, s3'⟩, s4⟩ := hT.2.2.2.2.2.2.2.2.1
    have s1 : h.2 (b + 1) = some (ce_O 2 [.ref (b + 2), .ref (b + 3), .ref (b + 4), .int (ni c), .int (ni t)]) := s1
    have s2 : h.2 (b + 2) = some (ce_I 120 f) := s2
    have r1 : in_R (ni c) 120 = true := ni_in_t (by omega) (by omega)
    have r2 : (ni c).toNatClampNeg = c := ni_nat (by omega)
    have r3 : ¬ (Int32.ofNat 120 < ni (c + 1)) := niNT (a := 120) (by omega) (by omega) (by omega)
    rw [show F + (k + 1) + 1 = (F + k + 1) + 1 by omega, ni_s1, f_T_feed_b41, if_neg (ni_nn (by omega))]
    simp only [fd_I, fd_V, fd_A, pt_V, pt_Z, ar_I, ar_Z, ar_R, as_I, as_Z, cp_I, ln_A, ck_T, tg_O, hp_2, List.contains_cons, List.contains_nil, List.getElem?_cons_zero, List.getElem?_cons_succ, List.set_cons_succ, List.set_cons_zero, List.length_cons, List.length_nil, Option.bind_some, Option.bind_none, Nat.reduceLT, Nat.reduceAdd, Nat.reduceBEq, BEq.rfl, beq_self_eq_true, Bool.or_false, Bool.or_true, Bool.true_or, Bool.false_or, decide_true, decide_false, Bool.not_false, Bool.not_true, Nat.zero_lt_succ, Nat.lt_add_left_iff_pos, Nat.succ_ne_self, ne_eq, not_false_eq_true, eq_self, if_true, if_false, ite_true, ite_false, bd_I, bd_V, bd_A, bd_L, re_I, re_V, Bool.true_and, Bool.and_true, reduceIte, reduceCtorEq, ↓reduceIte, Nat.reduceEqDiff, a1, s1, s2, f_Src_append, f_Src_hasRoomFor, f_Src_hasRoomFor_b19, f_Src_append_b28, ni_p1, r3, re_Z1, show ((1 : Int32) = 0) = False by decide, r1, r2, show ¬ b + 1 = b + 2 by omega, feed_b v k (by omega), ni_m1]
    have hT2 : RT b as (hp_S (hp_S h (b + 2) (ce_I 120 (upd f c ((v >>> ((8 * ni k) &&& 31)) &&& 255)))) (b + 1) (ce_O 2 [.ref (b + 2), .ref (b + 3), .ref (b + 4), .int (ni (c + 1)), .int (ni t)])) ls (upd f c ((v >>> ((8 * ni k) &&& 31)) &&& 255), bg, br, c + 1, t) lv lvm cl bag lt := by
      refine hT.src ⟨hp_at _ _ _, by rw [hp_ne _ _ _ _ (by omega), hp_at], ⟨f3, by rw [hp_ne _ _ _ _ (by omega), hp_ne _ _ _ _ (by omega)]; exact s3, s3'⟩, by rw [hp_ne _ _ _ _ (by omega), hp_ne _ _ _ _ (by omega)]; exact s4⟩ rfl (fun q hq => by rw [hp_ne _ _ _ _ (by omega), hp_ne _ _ _ _ (by omega)])
    obtain ⟨h', e1, e2, e3⟩ := ih F _ _ hT2 (by omega) (by show c + 1 + k ≤ 120; omega)
    refine ⟨h', by rw [e1]; show re_I (ni (c + 1 + k)) h' = re_I (ni (c + (k + 1))) h'; rw [show c + 1 + k = c + (k + 1) by omega], e2, FK.trans (FK.trans (FK.set (Or.inl (by omega))) (FK.set (Or.inl (by omega)))) e3⟩
theorem T_feed {b : Nat} {as : List Nat} {h : Hs_t} {w : Wd_t} (hT : RTw b as h w) (hv : wv_O w) (v x : Int32) : TR b h (f_T_feed b v x h) (op_feed w v x).1 (op_feed w v x).2 := by
  obtain ⟨ls, s, lv, lvm, cl, bag, lt⟩ := w
  have hT : RT b as h ls s lv lvm cl bag lt := hT
  have hs := iv_sr hv.1
  have o2 : s.2.2.2.1 ≤ 120 := hs.2.1
  rw [f_T_feed]
  simp only [op_feed]
  by_cases x1 : x < 1
  · rw [if_pos x1, if_pos x1]
    exact T_throw hT (FK.refl _ _) 9
  · rw [if_neg x1, if_neg x1]
    by_cases x2 : x ≤ 4
    · rw [if_pos x2, if_pos x2]
      obtain ⟨n, rfl, n1, n2⟩ := rg (lo := 1) (hi := 4) x1 x2 (by omega) (by omega)
      rw [ni_nat (by omega)]
      have a1 := hT.1
      have s1 := hT.2.2.2.2.2.2.2.2.1.1
      have s2 := hT.2.2.2.2.2.2.2.2.1.2.1
      by_cases hr : s.2.2.2.1 + n ≤ 120
      · have r3 : ¬ (Int32.ofNat 120 < ni (s.2.2.2.1 + n)) := niNT (a := 120) (by omega) (by omega) (by omega)
        simp only [fd_I, fd_V, fd_A, pt_V, pt_Z, ar_I, ar_Z, ar_R, as_I, as_Z, cp_I, ln_A, ck_T, tg_O, hp_2, List.contains_cons, List.contains_nil, List.getElem?_cons_zero, List.getElem?_cons_succ, List.set_cons_succ, List.set_cons_zero, List.length_cons, List.length_nil, Option.bind_some, Option.bind_none, Nat.reduceLT, Nat.reduceAdd, Nat.reduceBEq, BEq.rfl, beq_self_eq_true, Bool.or_false, Bool.or_true, Bool.true_or, Bool.false_or, decide_true, decide_false, Bool.not_false, Bool.not_true, Nat.zero_lt_succ, Nat.lt_add_left_iff_pos, Nat.succ_ne_self, ne_eq, not_false_eq_true, eq_self, if_true, if_false, ite_true, ite_false, bd_I, bd_V, bd_A, bd_L, re_I, re_V, Bool.true_and, Bool.and_true, reduceIte, reduceCtorEq, ↓reduceIte, Nat.reduceEqDiff, a1, s1, s2, f_Src_hasRoomFor, f_Src_hasRoomFor_b19, ni_add, r3, re_Z1, show ((1 : Int32) = 0) = False by decide, hr]
        obtain ⟨h', e1, e2, e3⟩ := T_fdl b as ls lv lvm cl bag lt v n (fu_N - n - 1) h s hT (by omega) hr
        rw [show fu_N - n - 1 + n + 1 = fu_N by simp only [fu_N]; omega] at e1
        exact ⟨h', as, e1, e2, e3⟩
      · have r3 : (Int32.ofNat 120 < ni (s.2.2.2.1 + n)) := niT (a := 120) (by omega) (by omega) (by omega)
        simp only [fd_I, fd_V, fd_A, pt_V, pt_Z, ar_I, ar_Z, ar_R, as_I, as_Z, cp_I, ln_A, ck_T, tg_O, hp_2, List.contains_cons, List.contains_nil, List.getElem?_cons_zero, List.getElem?_cons_succ, List.set_cons_succ, List.set_cons_zero, List.length_cons, List.length_nil, Option.bind_some, Option.bind_none, Nat.reduceLT, Nat.reduceAdd, Nat.reduceBEq, BEq.rfl, beq_self_eq_true, Bool.or_false, Bool.or_true, Bool.true_or, Bool.false_or, decide_true, decide_false, Bool.not_false, Bool.not_true, Nat.zero_lt_succ, Nat.lt_add_left_iff_pos, Nat.succ_ne_self, ne_eq, not_false_eq_true, eq_self, if_true, if_false, ite_true, ite_false, bd_I, bd_V, bd_A, bd_L, re_I, re_V, Bool.true_and, Bool.and_true, reduceIte, reduceCtorEq, ↓reduceIte, Nat.reduceEqDiff, a1, s1, s2, f_Src_hasRoomFor, f_Src_hasRoomFor_b19, ni_add, r3, re_Z0, hr]
        exact T_throw hT (FK.refl _ _) 10
    · rw [if_neg x2, if_neg x2]
      exact T_throw hT (FK.refl _ _) 9
theorem M_fdl (m : Nat) (h : Hs_t) (ls : List Ly_t) (lv lvm cl : Int32) (bag lt : List Int32) (v : Int32) (k : Nat) : ∀ (F : Nat) (g : Mg_t) (s : Sr_t), RW g ls s lv lvm cl bag lt → k ≤ 4 → s.2.2.2.1 + k ≤ 120 → ∃ g', f_M_feed_b47 (F + k + 1) m v (ni k - 1) (MH m g h) = re_I (ni (s.2.2.2.1 + k)) (MH m g' h) ∧ RW g' ls (fdl v k s) lv lvm cl bag lt ∧ g'.1 0 = g.1 0 := by
  induction k with
  | zero =>
    intro F g s hR hk hc
    have e4 := hR.2.1.2.2.2.1
    rw [f_M_feed_b47, if_pos (show ni 0 - 1 < 0 by decide)]
    simp only [mI_0, mP_0, mI_4, mP_4, mI_5, mP_5, mI_6, mP_6, mI_20, mP_20, mI_21, mP_21, mI_22, mP_22, mI_23, mP_23, mI_25, mP_25, mI_27, mP_27, mR_1, mG_1, mS_1, mR_2, mG_2, mS_2, mR_3, mG_3, mS_3, mR_7, mG_7, mS_7, mR_8, mG_8, mS_8, mR_9, mG_9, mS_9, mR_10, mG_10, mS_10, mR_11, mG_11, mS_11, mR_12, mG_12, mS_12, mR_13, mG_13, mS_13, mR_14, mG_14, mS_14, mR_15, mG_15, mS_15, mR_16, mG_16, mS_16, mR_17, mG_17, mS_17, mR_18, mG_18, mS_18, mR_19, mG_19, mS_19, mR_24, mG_24, mS_24, mR_26, mG_26, mS_26, mK_8, gS_1, gS_2, gA_1, gA_2, Option.bind_some, Option.bind_none, e4]
    exact ⟨g, rfl, hR, rfl⟩
  | succ k ih =>
    intro F g s hR hk hc
    obtain ⟨f, bg, br, c, t⟩ := s
    have hc : c + (k + 1) ≤ 120 := hc
    have e4 : g.1 4 = ni c := hR.2.1.2.2.2.1
    have e1 : g.2 1 = f := hR.2.1.1
    have r1 : in_R (ni c) 120 = true := ni_in_t (by omega) (by omega)
    have r2 : (ni c).toNatClampNeg = c := ni_nat (by omega)
    rw [show F + (k + 1) + 1 = (F + k + 1) + 1 by omega, ni_s1, f_M_feed_b47, if_neg (ni_nn (by omega))]
    simp only [mI_0, mP_0, mI_4, mP_4, mI_5, mP_5, mI_6, mP_6, mI_20, mP_20, mI_21, mP_21, mI_22, mP_22, mI_23, mP_23, mI_25, mP_25, mI_27, mP_27, mR_1, mG_1, mS_1, mR_2, mG_2, mS_2, mR_3, mG_3, mS_3, mR_7, mG_7, mS_7, mR_8, mG_8, mS_8, mR_9, mG_9, mS_9, mR_10, mG_10, mS_10, mR_11, mG_11, mS_11, mR_12, mG_12, mS_12, mR_13, mG_13, mS_13, mR_14, mG_14, mS_14, mR_15, mG_15, mS_15, mR_16, mG_16, mS_16, mR_17, mG_17, mS_17, mR_18, mG_18, mS_18, mR_19, mG_19, mS_19, mR_24, mG_24, mS_24, mR_26, mG_26, mS_26, mK_8, gS_1, gS_2, gA_1, gA_2, Option.bind_some, Option.bind_none, eq_self, if_true, if_false, ite_true, ite_false, bd_I, bd_V, bd_A, bd_L, re_I, re_V, Bool.true_and, Bool.and_true, reduceIte, reduceCtorEq, ↓reduceIte, Nat.reduceEqDiff, e4, r1, r2, ni_p1, ni_m1, e1]
    have hR2 : RW (gS (gA g 1 (upd f c ((v >>> ((8 * ni k) &&& 31)) &&& 255))) 4 (ni (c + 1))) ls (upd f c ((v >>> ((8 * ni k) &&& 31)) &&& 255), bg, br, c + 1, t) lv lvm cl bag lt := by
      obtain ⟨b1, b2, b3, b4, b5, b6, b7, b8, b9, b10⟩ := hR
      exact ⟨b1.congr fun k k1 k2 => by simp only [gS_2, gA_2]; rw [if_neg (by omega)], ⟨rfl, b2.2.1, b2.2.2.1, rfl, b2.2.2.2.2⟩, b3, b4, b5, b6, b7, b8, b9, b10⟩
    obtain ⟨g', q1, q2, q3⟩ := ih F _ _ hR2 (by omega) (by show c + 1 + k ≤ 120; omega)
    exact ⟨g', by rw [q1]; show re_I (ni (c + 1 + k)) _ = re_I (ni (c + (k + 1))) _; rw [show c + 1 + k = c + (k + 1) by omega], q2, q3⟩
theorem M_feed {m : Nat} {h : Hs_t} {g : Mg_t} {w : Wd_t} (hR : RWw g w) (hv : wv_O w) (v x : Int32) : MO m h (f_M_feed m v x (MH m g h)) (op_feed w v x).1 (fun t => if t = 9 then 1 else 2) (some (.int 0)) (op_feed w v x).2 := by
  obtain ⟨ls, s, lv, lvm, cl, bag, lt⟩ := w
  have hR : RW g ls s lv lvm cl bag lt := hR
  have hs := iv_sr hv.1
  have o2 : s.2.2.2.1 ≤ 120 := hs.2.1
  have e4 := hR.2.1.2.2.2.1
  rw [f_M_feed]
  simp only [op_feed]
  by_cases x1 : x < 1
  · simp only [x1, if_true, f_M_feed_b11, f_M_feed_b31, mI_0, mP_0, mI_4, mP_4, mI_5, mP_5, mI_6, mP_6, mI_20, mP_20, mI_21, mP_21, mI_22, mP_22, mI_23, mP_23, mI_25, mP_25, mI_27, mP_27, mR_1, mG_1, mS_1, mR_2, mG_2, mS_2, mR_3, mG_3, mS_3, mR_7, mG_7, mS_7, mR_8, mG_8, mS_8, mR_9, mG_9, mS_9, mR_10, mG_10, mS_10, mR_11, mG_11, mS_11, mR_12, mG_12, mS_12, mR_13, mG_13, mS_13, mR_14, mG_14, mS_14, mR_15, mG_15, mS_15, mR_16, mG_16, mS_16, mR_17, mG_17, mS_17, mR_18, mG_18, mS_18, mR_19, mG_19, mS_19, mR_24, mG_24, mS_24, mR_26, mG_26, mS_26, mK_8, gS_1, gS_2, gA_1, gA_2, Option.bind_some, Option.bind_none, eq_self, if_true, if_false, ite_true, ite_false, bd_I, bd_V, bd_A, bd_L, re_I, re_V, Bool.true_and, Bool.and_true, reduceIte, reduceCtorEq, ↓reduceIte, Nat.reduceEqDiff, show ¬ ((1 : Int32) ≤ 0) by decide]
    exact ⟨_, rfl, hR.cd 1, rfl⟩
  · simp only [x1, if_false]
    by_cases x2 : x ≤ 4
    · simp only [x2, if_true]
      obtain ⟨n, rfl, n1, n2⟩ := rg (lo := 1) (hi := 4) x1 x2 (by omega) (by omega)
      rw [ni_nat (by omega)]
      simp only [mI_0, mP_0, mI_4, mP_4, mI_5, mP_5, mI_6, mP_6, mI_20, mP_20, mI_21, mP_21, mI_22, mP_22, mI_23, mP_23, mI_25, mP_25, mI_27, mP_27, mR_1, mG_1, mS_1, mR_2, mG_2, mS_2, mR_3, mG_3, mS_3, mR_7, mG_7, mS_7, mR_8, mG_8, mS_8, mR_9, mG_9, mS_9, mR_10, mG_10, mS_10, mR_11, mG_11, mS_11, mR_12, mG_12, mS_12, mR_13, mG_13, mS_13, mR_14, mG_14, mS_14, mR_15, mG_15, mS_15, mR_16, mG_16, mS_16, mR_17, mG_17, mS_17, mR_18, mG_18, mS_18, mR_19, mG_19, mS_19, mR_24, mG_24, mS_24, mR_26, mG_26, mS_26, mK_8, gS_1, gS_2, gA_1, gA_2, Option.bind_some, Option.bind_none, e4, ni_add]
      by_cases hr : s.2.2.2.1 + n ≤ 120
      · rw [if_pos (show ni (s.2.2.2.1 + n) ≤ 120 from niL (b := 120) (by omega) (by omega) hr), if_pos hr]
        obtain ⟨g', q1, q2, q3⟩ := M_fdl m h ls lv lvm cl bag lt v n (fu_N - n - 1) (gS g 0 0) s (hR.cd 0) (by omega) hr
        rw [show fu_N - n - 1 + n + 1 = fu_N by simp only [fu_N]; omega] at q1
        simp only [f_M_feed_b31, mI_0, mP_0, mI_4, mP_4, mI_5, mP_5, mI_6, mP_6, mI_20, mP_20, mI_21, mP_21, mI_22, mP_22, mI_23, mP_23, mI_25, mP_25, mI_27, mP_27, mR_1, mG_1, mS_1, mR_2, mG_2, mS_2, mR_3, mG_3, mS_3, mR_7, mG_7, mS_7, mR_8, mG_8, mS_8, mR_9, mG_9, mS_9, mR_10, mG_10, mS_10, mR_11, mG_11, mS_11, mR_12, mG_12, mS_12, mR_13, mG_13, mS_13, mR_14, mG_14, mS_14, mR_15, mG_15, mS_15, mR_16, mG_16, mS_16, mR_17, mG_17, mS_17, mR_18, mG_18, mS_18, mR_19, mG_19, mS_19, mR_24, mG_24, mS_24, mR_26, mG_26, mS_26, mK_8, gS_1, gS_2, gA_1, gA_2, Option.bind_some, Option.bind_none, eq_self, if_true, if_false, ite_true, ite_false, bd_I, bd_V, bd_A, bd_L, re_I, re_V, Bool.true_and, Bool.and_true, reduceIte, reduceCtorEq, ↓reduceIte, Nat.reduceEqDiff, show ((0 : Int32) ≤ 0) = True by decide]
        exact ⟨g', q1, q2, q3⟩
      · rw [if_neg (show ¬ ni (s.2.2.2.1 + n) ≤ 120 from niNL (b := 120) (by omega) (by omega) (by omega)), if_neg hr]
        simp only [f_M_feed_b31, mI_0, mP_0, mI_4, mP_4, mI_5, mP_5, mI_6, mP_6, mI_20, mP_20, mI_21, mP_21, mI_22, mP_22, mI_23, mP_23, mI_25, mP_25, mI_27, mP_27, mR_1, mG_1, mS_1, mR_2, mG_2, mS_2, mR_3, mG_3, mS_3, mR_7, mG_7, mS_7, mR_8, mG_8, mS_8, mR_9, mG_9, mS_9, mR_10, mG_10, mS_10, mR_11, mG_11, mS_11, mR_12, mG_12, mS_12, mR_13, mG_13, mS_13, mR_14, mG_14, mS_14, mR_15, mG_15, mS_15, mR_16, mG_16, mS_16, mR_17, mG_17, mS_17, mR_18, mG_18, mS_18, mR_19, mG_19, mS_19, mR_24, mG_24, mS_24, mR_26, mG_26, mS_26, mK_8, gS_1, gS_2, gA_1, gA_2, Option.bind_some, Option.bind_none, eq_self, if_true, if_false, ite_true, ite_false, bd_I, bd_V, bd_A, bd_L, re_I, re_V, Bool.true_and, Bool.and_true, reduceIte, reduceCtorEq, ↓reduceIte, Nat.reduceEqDiff, show ¬ ((2 : Int32) ≤ 0) by decide]
        exact ⟨_, rfl, hR.cd 2, rfl⟩
    · simp only [x2, if_false, f_M_feed_b11, f_M_feed_b31, mI_0, mP_0, mI_4, mP_4, mI_5, mP_5, mI_6, mP_6, mI_20, mP_20, mI_21, mP_21, mI_22, mP_22, mI_23, mP_23, mI_25, mP_25, mI_27, mP_27, mR_1, mG_1, mS_1, mR_2, mG_2, mS_2, mR_3, mG_3, mS_3, mR_7, mG_7, mS_7, mR_8, mG_8, mS_8, mR_9, mG_9, mS_9, mR_10, mG_10, mS_10, mR_11, mG_11, mS_11, mR_12, mG_12, mS_12, mR_13, mG_13, mS_13, mR_14, mG_14, mS_14, mR_15, mG_15, mS_15, mR_16, mG_16, mS_16, mR_17, mG_17, mS_17, mR_18, mG_18, mS_18, mR_19, mG_19, mS_19, mR_24, mG_24, mS_24, mR_26, mG_26, mS_26, mK_8, gS_1, gS_2, gA_1, gA_2, Option.bind_some, Option.bind_none, eq_self, if_true, if_false, ite_true, ite_false, bd_I, bd_V, bd_A, bd_L, re_I, re_V, Bool.true_and, Bool.and_true, reduceIte, reduceCtorEq, ↓reduceIte, Nat.reduceEqDiff, show ¬ ((1 : Int32) ≤ 0) by decide]
      exact ⟨_, rfl, hR.cd 1, rfl⟩
theorem fdl_K (v : Int32) (k : Nat) : ∀ (s : Sr_t), sr_O s → s.2.2.2.1 + k ≤ 120 → sr_O (fdl v k s) ∧ (fdl v k s).2.2.2.2 = s.2.2.2.2 := by
  induction k with
  | zero => intro s h _; exact ⟨h, rfl⟩
  | succ k ih =>
    intro s h hc
    obtain ⟨f, bg, br, c, t⟩ := s
    have hc : c + (k + 1) ≤ 120 := hc
    have o1 : t ≤ c := h.1
    have := ih (upd f c ((v >>> ((8 * ni k) &&& 31)) &&& 255), bg, br, c + 1, t) ⟨by show t ≤ c + 1; omega, by show c + 1 ≤ 120; omega, fun j hj => by
      have hj : j < c + 1 := hj
      simp only [upd]; split
      · exact by_and _
      · exact h.2.2.1 j (by show j < c; omega), h.2.2.2⟩ (by show c + 1 + k ≤ 120; omega)
    exact this
theorem ph_src {ls : List Ly_t} {s s' : Sr_t} (h : s'.2.2.2.2 = s.2.2.2.2) : ph_N ls s' = ph_N ls s := by
  induction ls with
  | nil => simp only [ph_N, h]
  | cons L ls ih =>
    match L with
    | .inl (rm, kp, tg, mq) => simp only [ph_N, ih]
    | .inr (.inl (rm, st)) => simp only [ph_N, ih]
    | .inr (.inr L) => simp only [ph_N, ih]
theorem iv_src {ls : List Ly_t} {s s' : Sr_t} (hv : iv_O ls s) (h : s'.2.2.2.2 = s.2.2.2.2) (hs : sr_O s') : iv_O ls s' := by
  induction ls with
  | nil => exact hs
  | cons L ls ih => exact ⟨hv.1, by rw [ph_src h]; exact hv.2.1, ih hv.2.2⟩
def op_unread (w : Wd_t) (x : Int32) : (Option Value ⊕ Nat) × Wd_t := match w with
  | (ls, s, lv, lvm, cl, r) => if cl = 0 then (if x < 0 then (.inr 9, (ls, s, lv, lvm, cl, r)) else if x ≤ 255 then (match ls with
    | .inr (.inl (rm, st)) :: ls => if st.length < rm then (.inl none, (ly_P rm (x :: st) :: ls, s, lv, lvm, cl, r)) else (.inr 10, (ly_P rm st :: ls, s, lv, lvm, cl, r))
    | ls => (.inr 12, (ls, s, lv, lvm, cl, r))) else (.inr 9, (ls, s, lv, lvm, cl, r))) else (.inr 10, (ls, s, lv, lvm, cl, r))
