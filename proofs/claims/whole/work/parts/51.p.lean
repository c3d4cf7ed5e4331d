/-! The reference: reading for a call, the bag. -/
def RW (g : Mg_t) (ls : List Ly_t) (s : Sr_t) (lv lvm cl : Int32) (bag lt : List Int32) : Prop :=
  RMl g ls ∧ RSm g s ∧ g.1 6 = ni ls.length ∧ g.1 21 = cl ∧ g.1 22 = lv ∧ g.1 23 = lvm ∧ g.1 25 = ni bag.length ∧ sl (g.2 24) 0 bag.length = bag ∧ g.1 27 = ni lt.length ∧ sl (g.2 26) 0 lt.length = lt
theorem RLm.congr {g g' : Mg_t} {l : Nat} {L : Ly_t} (h : RLm g l L) (e : ∀ k, 7 ≤ k → k ≤ 17 → g'.2 k = g.2 k) : RLm g' l L := by
  have e7 := e 7 (by omega) (by omega); have e8 := e 8 (by omega) (by omega); have e9 := e 9 (by omega) (by omega); have e10 := e 10 (by omega) (by omega); have e11 := e 11 (by omega) (by omega); have e12 := e 12 (by omega) (by omega); have e13 := e 13 (by omega) (by omega); have e14 := e 14 (by omega) (by omega); have e15 := e 15 (by omega) (by omega); have e16 := e 16 (by omega) (by omega); have e17 := e 17 (by omega) (by omega)
  match L, h with
  | .inl (rm, kp, tg, mq), h => simp only [RLm] at h ⊢; rw [e7, e8, e13, e14, e15, e16, e17]; exact h
  | .inr (.inl (rm, st)), h => simp only [RLm] at h ⊢; rw [e7, e8, e13, e14]; exact h
  | .inr (.inr (.inl (lf, lm))), h => simp only [RLm] at h ⊢; rw [e7, e9, e10, e11, e12]; exact h
  | .inr (.inr (.inr (.inl (key, cd, cm)))), h => simp only [RLm] at h ⊢; rw [e7, e8, e9, e10, e11, e12]; exact h
  | .inr (.inr (.inr (.inr (a, em, cr, crm)))), h => simp only [RLm] at h ⊢; rw [e7, e9, e10, e11, e12]; exact h
theorem RMl.congr {g g' : Mg_t} (e : ∀ k, 7 ≤ k → k ≤ 17 → g'.2 k = g.2 k) : ∀ {ls : List Ly_t}, RMl g ls → RMl g' ls
  | [], _ => trivial
  | _ :: _, h => ⟨h.1.congr e, RMl.congr e h.2⟩
theorem RW.of {g g' : Mg_t} {ls : List Ly_t} {s : Sr_t} {lv lvm cl : Int32} {bag lt : List Int32} (h : RW g ls s lv lvm cl bag lt) (h1 : ∀ k, k ≠ 0 → k ≠ 20 → g'.1 k = g.1 k) (h2 : ∀ k, k ≠ 19 → g'.2 k = g.2 k) : RW g' ls s lv lvm cl bag lt := by
  obtain ⟨a1, a2, a3, a4, a5, a6, a7, a8, a9, a10⟩ := h
  refine ⟨a1.congr fun k q1 q2 => h2 k (by omega), ?_, ?_, ?_, ?_, ?_, ?_, ?_, ?_, ?_⟩
  · obtain ⟨b1, b2, b3, b4, b5⟩ := a2
    refine ⟨?_, ?_, ?_, ?_, ?_⟩
    · rw [h2 1 (by omega)]; exact b1
    · rw [h2 2 (by omega)]; exact b2
    · rw [h2 3 (by omega)]; exact b3
    · rw [h1 4 (by omega) (by omega)]; exact b4
    · rw [h1 5 (by omega) (by omega)]; exact b5
  · rw [h1 6 (by omega) (by omega)]; exact a3
  · rw [h1 21 (by omega) (by omega)]; exact a4
  · rw [h1 22 (by omega) (by omega)]; exact a5
  · rw [h1 23 (by omega) (by omega)]; exact a6
  · rw [h1 25 (by omega) (by omega)]; exact a7
  · rw [h2 24 (by omega)]; exact a8
  · rw [h1 27 (by omega) (by omega)]; exact a9
  · rw [h2 26 (by omega)]; exact a10
theorem RW.lv {g : Mg_t} {ls : List Ly_t} {s : Sr_t} {lv lvm cl : Int32} {bag lt : List Int32} (h : RW g ls s lv lvm cl bag lt) (x : Int32) : RW (gS g 22 x) ls s x lvm cl bag lt := by
  obtain ⟨a1, a2, a3, a4, a5, a6, a7, a8, a9, a10⟩ := h
  exact ⟨RMl.congr (g := g) (g' := gS g 22 x) (fun k _ _ => rfl) a1, a2, a3, a4, rfl, a6, a7, a8, a9, a10⟩
theorem M_request2 {m : Nat} {h : Hs_t} {g : Mg_t} {ls : List Ly_t} {s : Sr_t} {lv lvm cl : Int32} {bag lt : List Int32} (hR : RW g ls s lv lvm cl bag lt) (hv : iv_O ls s) (hL : ls.length ≤ 5) {n : Nat} (hn0 : 1 ≤ n) (hn : n ≤ 120) : ∃ g', f_M_request m (ni n) (MH m g h) = re_Z (if (rq ls n s).1.isSome then 1 else 0) (MH m g' h) ∧ RW g' (rq ls n s).2.1 (rq ls n s).2.2 lv lvm cl bag lt ∧ (∀ bs, (rq ls n s).1 = some bs → AN g' bs) ∧ g'.1 0 = g.1 0 := by
  obtain ⟨a1, a2, a3, a4, a5, a6, a7, a8, a9, a10⟩ := hR
  have hK := rq_iv ls n s hn0 hv
  obtain ⟨g', e1, e2, e3, e4, e5⟩ := M_request m h ls n s g a1 a2 hv hn0 hn hL a3
  refine ⟨g', e1, ⟨e2, e3, ?_, ?_, ?_, ?_, ?_, ?_, ?_, ?_⟩, e4, e5.1 0 (by omega) (by omega)⟩
  · rw [e5.1 6 (by omega) (by omega), hK.2.1]; exact a3
  · rw [e5.1 21 (by omega) (by omega)]; exact a4
  · rw [e5.1 22 (by omega) (by omega)]; exact a5
  · rw [e5.1 23 (by omega) (by omega)]; exact a6
  · rw [e5.1 25 (by omega) (by omega)]; exact a7
  · rw [e5.2.1 24 (by simp)]; exact a8
  · rw [e5.1 27 (by omega) (by omega)]; exact a9
  · rw [e5.2.1 26 (by simp)]; exact a10
theorem M_reads_b70 (m : Nat) (h : Hs_t) (c : Nat) (hc : c ≤ 119) (d : Nat) : ∀ (i k : Nat) (g : Mg_t), g.1 20 = ni c → i + d = c → f_M_reads_b70 (k + d + 1) m (ni i) (MH m g h) = re_Z 1 (MH m (gA g 19 (va_cpy (g.2 19) (g.2 19) (i + 1) i d)) h) := by
  induction d with
  | zero =>
    intro i k g hg hi
    rw [f_M_reads_b70]
    simp only [mI_0, mP_0, mI_4, mP_4, mI_5, mP_5, mI_6, mP_6, mI_20, mP_20, mI_21, mP_21, mI_22, mP_22, mI_23, mP_23, mI_25, mP_25, mI_27, mP_27, mR_1, mG_1, mS_1, mR_2, mG_2, mS_2, mR_3, mG_3, mS_3, mR_7, mG_7, mS_7, mR_8, mG_8, mS_8, mR_9, mG_9, mS_9, mR_10, mG_10, mS_10, mR_11, mG_11, mS_11, mR_12, mG_12, mS_12, mR_13, mG_13, mS_13, mR_14, mG_14, mS_14, mR_15, mG_15, mS_15, mR_16, mG_16, mS_16, mR_17, mG_17, mS_17, mR_18, mG_18, mS_18, mR_19, mG_19, mS_19, mR_24, mG_24, mS_24, mR_26, mG_26, mS_26, mK_8, gS_1, gS_2, gA_1, gA_2, Option.bind_some, Option.bind_none, eq_self, if_true, if_false, ite_true, ite_false, bd_I, bd_V, bd_A, bd_L, re_I, re_V, Bool.true_and, Bool.and_true, reduceIte, reduceCtorEq, ↓reduceIte, Nat.reduceEqDiff, hg]
    rw [if_pos (niL (by omega) (by omega) (by omega)), cpy_0, gA_self]
  | succ d ih =>
    intro i k g hg hi
    have h3 : in_R (ni (i + 1)) 120 = true := ni_in_t (by omega) (by omega)
    have h4 : in_R (ni i) 120 = true := ni_in_t (by omega) (by omega)
    have h5 : (ni (i + 1)).toNatClampNeg = i + 1 := ni_nat (by omega)
    have h6 : (ni i).toNatClampNeg = i := ni_nat (by omega)
    rw [show k + (d + 1) + 1 = (k + d + 1) + 1 by omega]
    rw [f_M_reads_b70]
    simp only [mI_0, mP_0, mI_4, mP_4, mI_5, mP_5, mI_6, mP_6, mI_20, mP_20, mI_21, mP_21, mI_22, mP_22, mI_23, mP_23, mI_25, mP_25, mI_27, mP_27, mR_1, mG_1, mS_1, mR_2, mG_2, mS_2, mR_3, mG_3, mS_3, mR_7, mG_7, mS_7, mR_8, mG_8, mS_8, mR_9, mG_9, mS_9, mR_10, mG_10, mS_10, mR_11, mG_11, mS_11, mR_12, mG_12, mS_12, mR_13, mG_13, mS_13, mR_14, mG_14, mS_14, mR_15, mG_15, mS_15, mR_16, mG_16, mS_16, mR_17, mG_17, mS_17, mR_18, mG_18, mS_18, mR_19, mG_19, mS_19, mR_24, mG_24, mS_24, mR_26, mG_26, mS_26, mK_8, gS_1, gS_2, gA_1, gA_2, Option.bind_some, Option.bind_none, eq_self, if_true, if_false, ite_true, ite_false, bd_I, bd_V, bd_A, bd_L, re_I, re_V, Bool.true_and, Bool.and_true, reduceIte, reduceCtorEq, ↓reduceIte, Nat.reduceEqDiff, hg, ni_p1, h3, h4, h5, h6]
    rw [if_neg (niNL (by omega) (by omega) (by omega))]
    rw [ih (i + 1) k _ (by simp only [gA_1]; exact hg) (by omega)]
    simp only [gA_gA, gA_2, eq_self, if_true, if_false, ite_true, ite_false, bd_I, bd_V, bd_A, bd_L, re_I, re_V, Bool.true_and, Bool.and_true, reduceIte, reduceCtorEq, ↓reduceIte, Nat.reduceEqDiff]
    rw [cpy_fwd _ _ _ _ (by omega)]
theorem M_reads {m : Nat} {h : Hs_t} {g : Mg_t} {ls : List Ly_t} {s : Sr_t} {lv lvm cl : Int32} {bag lt : List Int32} (hR : RW g ls s lv lvm cl bag lt) (hv : iv_O ls s) (hL : ls.length ≤ 5) {n : Nat} (hn0 : 1 ≤ n) (hn : n ≤ 120) : ∃ g', f_M_reads m (ni n) (MH m g h) = re_Z (if (rd ls s lv n).1.1.isSome then 1 else 0) (MH m g' h) ∧ RW g' (rd ls s lv n).1.2.1 (rd ls s lv n).1.2.2 (rd ls s lv n).2 lvm cl bag lt ∧ (∀ bs, (rd ls s lv n).1.1 = some bs → AN g' bs) ∧ g'.1 0 = g.1 0 := by
  have hK := rq_iv ls n s hn0 hv
  obtain ⟨g1, e1, e2, e3, e4⟩ := M_request2 (m := m) (h := h) hR hv hL hn0 hn
  rw [f_M_reads]
  simp only [mI_0, mP_0, mI_4, mP_4, mI_5, mP_5, mI_6, mP_6, mI_20, mP_20, mI_21, mP_21, mI_22, mP_22, mI_23, mP_23, mI_25, mP_25, mI_27, mP_27, mR_1, mG_1, mS_1, mR_2, mG_2, mS_2, mR_3, mG_3, mS_3, mR_7, mG_7, mS_7, mR_8, mG_8, mS_8, mR_9, mG_9, mS_9, mR_10, mG_10, mS_10, mR_11, mG_11, mS_11, mR_12, mG_12, mS_12, mR_13, mG_13, mS_13, mR_14, mG_14, mS_14, mR_15, mG_15, mS_15, mR_16, mG_16, mS_16, mR_17, mG_17, mS_17, mR_18, mG_18, mS_18, mR_19, mG_19, mS_19, mR_24, mG_24, mS_24, mR_26, mG_26, mS_26, mK_8, gS_1, gS_2, gA_1, gA_2, Option.bind_some, Option.bind_none, e1]
  unfold rd
  generalize rq ls n s = z at *
  match z, hK, e2, e3 with
  | (none, ls1, s1), hK, e2, e3 =>
    simp only [Option.isSome, Bool.false_eq_true, if_false, re_Z0, eq_self, if_true, if_false, ite_true, ite_false, bd_I, bd_V, bd_A, bd_L, re_I, re_V, Bool.true_and, Bool.and_true, reduceIte, reduceCtorEq, ↓reduceIte, Nat.reduceEqDiff]
    exact ⟨g1, rfl, e2, fun bs e => (by cases e), e4⟩
  | (some [], ls1, s1), hK, e2, e3 =>
    have hA := e3 _ rfl
    simp only [Option.isSome, if_true, re_Z1, eq_self, if_true, if_false, ite_true, ite_false, bd_I, bd_V, bd_A, bd_L, re_I, re_V, Bool.true_and, Bool.and_true, reduceIte, reduceCtorEq, ↓reduceIte, Nat.reduceEqDiff, show ((1 : Int32) = 0) = False by decide, hA.1, List.length_nil, show (ni 0 = 0) = True by decide, f_M_reads_b24, ite_self, mI_0, mP_0, mI_4, mP_4, mI_5, mP_5, mI_6, mP_6, mI_20, mP_20, mI_21, mP_21, mI_22, mP_22, mI_23, mP_23, mI_25, mP_25, mI_27, mP_27, mR_1, mG_1, mS_1, mR_2, mG_2, mS_2, mR_3, mG_3, mS_3, mR_7, mG_7, mS_7, mR_8, mG_8, mS_8, mR_9, mG_9, mS_9, mR_10, mG_10, mS_10, mR_11, mG_11, mS_11, mR_12, mG_12, mS_12, mR_13, mG_13, mS_13, mR_14, mG_14, mS_14, mR_15, mG_15, mS_15, mR_16, mG_16, mS_16, mR_17, mG_17, mS_17, mR_18, mG_18, mS_18, mR_19, mG_19, mS_19, mR_24, mG_24, mS_24, mR_26, mG_26, mS_26, mK_8, gS_1, gS_2, gA_1, gA_2, Option.bind_some, Option.bind_none]
    exact ⟨g1, rfl, e2, e3, e4⟩
  | (some (x :: bs), ls1, s1), hK, e2, e3 =>
    have hb := hK.2.2.2.2.2.2.2.2 _ rfl
    have hb1 := hb.1
    have hln : (x :: bs).length = bs.length + 1 := rfl
    have hA := e3 _ rfl
    have m0 : ¬ (ni (bs.length + 1) = 0) := niNE (b := 0) (by omega) (by omega) (by omega)
    have hx : g1.2 19 0 = x := by
      have := hA.2
      simp only [List.length_cons, sl, List.cons.injEq] at this
      exact this.1
    have hA1 : g1.1 20 = ni (bs.length + 1) := hA.1
    have e22 : g1.1 22 = lv := e2.2.2.2.2.1
    have r0 : in_R 0 120 = true := by decide
    have t0 : (0 : Int32).toNatClampNeg = 0 := by decide
    have z0 : is_Z 0 = true := by decide
    simp only [Option.isSome, if_true, re_Z1, eq_self, if_true, if_false, ite_true, ite_false, bd_I, bd_V, bd_A, bd_L, re_I, re_V, Bool.true_and, Bool.and_true, reduceIte, reduceCtorEq, ↓reduceIte, Nat.reduceEqDiff, show ((1 : Int32) = 0) = False by decide, hA1, m0, f_M_reads_b24, e22, z0, r0, t0, hx, mI_0, mP_0, mI_4, mP_4, mI_5, mP_5, mI_6, mP_6, mI_20, mP_20, mI_21, mP_21, mI_22, mP_22, mI_23, mP_23, mI_25, mP_25, mI_27, mP_27, mR_1, mG_1, mS_1, mR_2, mG_2, mS_2, mR_3, mG_3, mS_3, mR_7, mG_7, mS_7, mR_8, mG_8, mS_8, mR_9, mG_9, mS_9, mR_10, mG_10, mS_10, mR_11, mG_11, mS_11, mR_12, mG_12, mS_12, mR_13, mG_13, mS_13, mR_14, mG_14, mS_14, mR_15, mG_15, mS_15, mR_16, mG_16, mS_16, mR_17, mG_17, mS_17, mR_18, mG_18, mS_18, mR_19, mG_19, mS_19, mR_24, mG_24, mS_24, mR_26, mG_26, mS_26, mK_8, gS_1, gS_2, gA_1, gA_2, Option.bind_some, Option.bind_none]
    by_cases hl : lv = 0
    · simp only [hl, if_true]
      subst hl
      exact ⟨g1, rfl, e2, e3, e4⟩
    · simp only [hl, if_false]
      by_cases h10 : x = 10
      · simp only [h10, if_true]
        cases bs with
        | nil =>
          simp only [List.length_nil, Nat.zero_add, show (ni 1 = (1 : Int32)) = True by decide, if_true]
          obtain ⟨g3, q1, q2, q3, q4⟩ := M_request2 (m := m) (h := h) (e2.lv 0) hK.1 (by rw [hK.2.1]; exact hL) hn0 hn
          simp only [q1]
          generalize rq ls1 n s1 = y at *
          obtain ⟨y, ls2, s2⟩ := y
          cases y with
          | none => exact ⟨g3, rfl, q2, q3, by rw [q4]; exact e4⟩
          | some cs => exact ⟨g3, rfl, q2, q3, by rw [q4]; exact e4⟩
        | cons c bs =>
          simp only [List.length_cons] at hb1 hA1
          have n1 : ¬ (ni (bs.length + 1 + 1) = 1) := niNE (b := 1) (by omega) (by omega) (by omega)
          have s1' : ni (bs.length + 1 + 1) - 1 = ni (bs.length + 1) := ni_s1 _
          simp only [List.length_cons, n1, if_false, s1']
          have e5 := M_reads_b70 m h (bs.length + 1) (by omega) (bs.length + 1) 0 (fu_N - (bs.length + 1) - 1) (gS (gS g1 22 0) 20 (ni (bs.length + 1))) rfl (by omega)
          rw [show fu_N - (bs.length + 1) - 1 + (bs.length + 1) + 1 = fu_N by simp only [fu_N]; omega] at e5
          rw [show (0 : Int32) = ni 0 from rfl] at e5 ⊢
          refine ⟨_, e5, (e2.lv (ni 0)).of (fun k k1 k2 => by simp only [gA_1, gS_1, if_neg k2]) (fun k k1 => by simp only [gA_2, gS_2, if_neg k1]), fun cs e => ?_, e4⟩
          cases e
          refine ⟨rfl, ?_⟩
          simp only [gA_2, gS_2, eq_self, if_true, if_false, ite_true, ite_false, bd_I, bd_V, bd_A, bd_L, re_I, re_V, Bool.true_and, Bool.and_true, reduceIte, reduceCtorEq, ↓reduceIte, Nat.reduceEqDiff, List.length_cons]
          rw [sl_cpy]
          have := hA.2
          simp only [List.length_cons, sl, List.cons.injEq] at this
          simp only [sl, List.cons.injEq]
          exact this.2
      · simp only [h10, if_false]
        exact ⟨_, rfl, e2.lv 0, fun cs e => by cases e; exact ⟨hA.1, hA.2⟩, e4⟩
theorem gS_self (g : Mg_t) (k : Nat) (x : Int32) (h : g.1 k = x) : gS g k x = g := by
  obtain ⟨a, b⟩ := g
  simp only [gS, Prod.mk.injEq, and_true]
  subst h
  exact upd_self a k
theorem M_putBag_b2 (m : Nat) (h : Hs_t) (c : Nat) (hc : c ≤ 120) (d : Nat) : ∀ (i k t : Nat) (g : Mg_t), g.1 20 = ni c → g.1 25 = ni t → t + d ≤ 600 → i + d = c → f_M_putBag_b2 (k + d + 1) m (ni i) (MH m g h) = re_V (MH m (gS (gA g 24 (va_cpy (g.2 19) (g.2 24) i t d)) 25 (ni (t + d))) h) := by
  induction d with
  | zero =>
    intro i k t g hg hg2 ht hi
    rw [f_M_putBag_b2]
    simp only [mI_0, mP_0, mI_4, mP_4, mI_5, mP_5, mI_6, mP_6, mI_20, mP_20, mI_21, mP_21, mI_22, mP_22, mI_23, mP_23, mI_25, mP_25, mI_27, mP_27, mR_1, mG_1, mS_1, mR_2, mG_2, mS_2, mR_3, mG_3, mS_3, mR_7, mG_7, mS_7, mR_8, mG_8, mS_8, mR_9, mG_9, mS_9, mR_10, mG_10, mS_10, mR_11, mG_11, mS_11, mR_12, mG_12, mS_12, mR_13, mG_13, mS_13, mR_14, mG_14, mS_14, mR_15, mG_15, mS_15, mR_16, mG_16, mS_16, mR_17, mG_17, mS_17, mR_18, mG_18, mS_18, mR_19, mG_19, mS_19, mR_24, mG_24, mS_24, mR_26, mG_26, mS_26, mK_8, gS_1, gS_2, gA_1, gA_2, Option.bind_some, Option.bind_none, eq_self, if_true, if_false, ite_true, ite_false, bd_I, bd_V, bd_A, bd_L, re_I, re_V, Bool.true_and, Bool.and_true, reduceIte, reduceCtorEq, ↓reduceIte, Nat.reduceEqDiff, hg]
    rw [if_pos (niL (by omega) (by omega) (by omega)), cpy_0, gA_self, Nat.add_zero, gS_self _ _ _ hg2]
  | succ d ih =>
    intro i k t g hg hg2 ht hi
    have h3 : in_R (ni t) 600 = true := ni_in_t (by omega) (by omega)
    have h4 : in_R (ni i) 120 = true := ni_in_t (by omega) (by omega)
    have h5 : (ni t).toNatClampNeg = t := ni_nat (by omega)
    have h6 : (ni i).toNatClampNeg = i := ni_nat (by omega)
    rw [show k + (d + 1) + 1 = (k + d + 1) + 1 by omega]
    rw [f_M_putBag_b2]
    simp only [mI_0, mP_0, mI_4, mP_4, mI_5, mP_5, mI_6, mP_6, mI_20, mP_20, mI_21, mP_21, mI_22, mP_22, mI_23, mP_23, mI_25, mP_25, mI_27, mP_27, mR_1, mG_1, mS_1, mR_2, mG_2, mS_2, mR_3, mG_3, mS_3, mR_7, mG_7, mS_7, mR_8, mG_8, mS_8, mR_9, mG_9, mS_9, mR_10, mG_10, mS_10, mR_11, mG_11, mS_11, mR_12, mG_12, mS_12, mR_13, mG_13, mS_13, mR_14, mG_14, mS_14, mR_15, mG_15, mS_15, mR_16, mG_16, mS_16, mR_17, mG_17, mS_17, mR_18, mG_18, mS_18, mR_19, mG_19, mS_19, mR_24, mG_24, mS_24, mR_26, mG_26, mS_26, mK_8, gS_1, gS_2, gA_1, gA_2, Option.bind_some, Option.bind_none, eq_self, if_true, if_false, ite_true, ite_false, bd_I, bd_V, bd_A, bd_L, re_I, re_V, Bool.true_and, Bool.and_true, reduceIte, reduceCtorEq, ↓reduceIte, Nat.reduceEqDiff, hg, hg2, ni_p1, h3, h4, h5, h6]
    rw [if_neg (niNL (by omega) (by omega) (by omega))]
    rw [ih (i + 1) k (t + 1) _ (by simp only [gS_1, gA_1]; exact hg) (by simp only [gS_1, if_true]) (by omega) (by omega)]
    have e1 : ∀ (f1 f2 : Nat → Int32) (x y : Int32), gS (gA (gS (gA g 24 f1) 25 x) 24 f2) 25 y = gS (gA g 24 f2) 25 y := by
      intro f1 f2 x y
      simp only [gS, gA, Prod.mk.injEq]
      refine ⟨upd_upd _ _ _ _, ?_⟩
      funext j; simp only [va_up]; split <;> rfl
    simp only [e1, gS_2, gA_2, eq_self, if_true, if_false, ite_true, ite_false, bd_I, bd_V, bd_A, bd_L, re_I, re_V, Bool.true_and, Bool.and_true, reduceIte, reduceCtorEq, ↓reduceIte, Nat.reduceEqDiff]
    rw [cpy_step, show t + 1 + d = t + (d + 1) by omega]
theorem M_putBag {m : Nat} {h : Hs_t} {g : Mg_t} {ls : List Ly_t} {s : Sr_t} {lv lvm cl : Int32} {bag lt bs : List Int32} (hR : RW g ls s lv lvm cl bag lt) (hA : AN g bs) (hb : bs.length ≤ 120) (hbg : bag.length + bs.length ≤ 600) : ∃ g', f_M_putBag m (MH m g h) = re_V (MH m g' h) ∧ RW g' ls s lv lvm cl (bag ++ bs) lt ∧ AN g' bs ∧ g'.1 0 = g.1 0 := by
  obtain ⟨a1, a2, a3, a4, a5, a6, a7, a8, a9, a10⟩ := hR
  have e := M_putBag_b2 m h bs.length hb bs.length 0 (fu_N - bs.length - 1) bag.length g hA.1 a7 hbg (by omega)
  rw [show fu_N - bs.length - 1 + bs.length + 1 = fu_N by simp only [fu_N]; omega] at e
  refine ⟨_, e, ⟨a1.congr fun k k1 k2 => by simp only [gS_2, gA_2]; rw [if_neg (by omega)], a2, a3, a4, a5, a6, by simp only [gS_1, if_true, List.length_append], ?_, a9, a10⟩, ⟨hA.1, hA.2⟩, rfl⟩
  simp only [gS_2, gA_2, if_true, List.length_append]
  rw [sl_app, sl_cpy_out _ _ _ _ _ _ _ (by omega), a8, Nat.zero_add, sl_cpy, hA.2]
/-- filling the bag with n bytes: 0, or 1 (broken), or 2 (the end) -/
def fl : Nat → Nat → List Ly_t → Sr_t → Int32 → List Int32 → Nat × List Ly_t × Sr_t × Int32 × List Int32
  | 0, _, ls, s, lv, bag => (0, ls, s, lv, bag)
  | k + 1, n, ls, s, lv, bag => if n = 0 then (0, ls, s, lv, bag) else match rd ls s lv n with
    | ((none, ls1, s1), lv1) => (1, ls1, s1, lv1, bag)
    | ((some [], ls1, s1), lv1) => (2, ls1, s1, lv1, bag)
    | ((some (x :: bs), ls1, s1), lv1) => fl k (n - (x :: bs).length) ls1 s1 lv1 (bag ++ x :: bs)
def fl_K (k n : Nat) (ls : List Ly_t) (bag : List Int32) (r : Nat × List Ly_t × Sr_t × Int32 × List Int32) : Prop := iv_O r.2.1 r.2.2.1 ∧ r.2.1.length = ls.length ∧ (r.2.2.2.1 = 0 ∨ r.2.2.2.1 = 1) ∧ r.1 ≤ 2 ∧ by_A r.2.2.2.2 ∧ r.2.2.2.2.length ≤ bag.length + n ∧ (r.1 = 0 → r.2.2.2.2.length = bag.length + n ∧ ∃ cs, r.2.2.2.2 = bag ++ cs)
theorem fl_iv (k : Nat) : ∀ (n : Nat) (ls : List Ly_t) (s : Sr_t) (lv : Int32) (bag : List Int32), n ≤ k → iv_O ls s → (lv = 0 ∨ lv = 1) → by_A bag → fl_K k n ls bag (fl k n ls s lv bag) := by
  induction k with
  | zero =>
    intro n ls s lv bag hn hv hl hb
    have : n = 0 := by omega
    subst this
    exact ⟨hv, rfl, hl, Nat.zero_le _, hb, Nat.le_refl _, fun _ => ⟨rfl, [], by simp [fl]⟩⟩
  | succ k ih =>
    intro n ls s lv bag hn hv hl hb
    simp only [fl]
    by_cases h0 : n = 0
    · rw [if_pos h0]; subst h0; exact ⟨hv, rfl, hl, Nat.zero_le _, hb, Nat.le_refl _, fun _ => ⟨rfl, [], by simp⟩⟩
    · rw [if_neg h0]
      have hK := rd_iv ls s lv n (by omega) hv hl
      generalize rd ls s lv n = z at *
      match z, hK with
      | ((none, ls1, s1), lv1), hK => exact ⟨hK.1, hK.2.1, hK.2.2.1, by simp, hb, by simp, fun e => by cases e⟩
      | ((some [], ls1, s1), lv1), hK => exact ⟨hK.1, hK.2.1, hK.2.2.1, by simp, hb, by simp, fun e => by cases e⟩
      | ((some (x :: bs), ls1, s1), lv1), hK =>
        have h1 := hK.2.2.2.2 _ rfl
        have h2 := h1.1
        have h3 : 1 ≤ (x :: bs).length := by simp
        obtain ⟨i1, i2, i3, i4, i5, i6, i7⟩ := ih (n - (x :: bs).length) ls1 s1 lv1 (bag ++ x :: bs) (by omega) hK.1 hK.2.2.1 (by_app hb h1.2.1)
        rw [List.length_append] at i6 i7
        dsimp only
        exact ⟨i1, i2.trans hK.2.1, i3, i4, i5, by omega, fun e => by
          obtain ⟨j1, cs, j2⟩ := i7 e
          exact ⟨by omega, (x :: bs) ++ cs, by rw [j2, List.append_assoc]⟩⟩
theorem M_fill_b2 (m : Nat) (h : Hs_t) (lvm cl : Int32) (lt : List Int32) (k : Nat) : ∀ (n F : Nat) (g : Mg_t) (ls : List Ly_t) (s : Sr_t) (lv : Int32) (bag : List Int32), RW g ls s lv lvm cl bag lt → iv_O ls s → ls.length ≤ 5 → (lv = 0 ∨ lv = 1) → n ≤ k → n ≤ 120 → bag.length + n ≤ 160 → ∃ g', f_M_fill_b2 (F + k + 1) m (ni n) (MH m g h) = re_I (ni (fl k n ls s lv bag).1) (MH m g' h) ∧ RW g' (fl k n ls s lv bag).2.1 (fl k n ls s lv bag).2.2.1 (fl k n ls s lv bag).2.2.2.1 lvm cl (fl k n ls s lv bag).2.2.2.2 lt ∧ g'.1 0 = g.1 0 := by
  induction k with
  | zero =>
    intro n F g ls s lv bag hR hv hL hlv hn hn2 hb
    have : n = 0 := by omega
    subst this
    rw [f_M_fill_b2, if_pos (show ni 0 ≤ 0 by decide)]
    exact ⟨g, rfl, hR, rfl⟩
  | succ k ih =>
    intro n F g ls s lv bag hR hv hL hlv hn hn2 hb
    rw [show F + (k + 1) + 1 = (F + k + 1) + 1 by omega, f_M_fill_b2]
    simp only [fl]
    by_cases h0 : n = 0
    · subst h0
      rw [if_pos (show ni 0 ≤ 0 by decide), if_pos rfl]
      exact ⟨g, rfl, hR, rfl⟩
    · rw [if_neg (show ¬ ni n ≤ 0 from niNL (b := 0) (by omega) (by omega) (by omega)), if_neg h0]
      have hK := rd_iv ls s lv n (by omega) hv hlv
      obtain ⟨g1, e1, e2, e3, e4⟩ := M_reads (m := m) (h := h) hR hv hL (n := n) (by omega) hn2
      simp only [mI_0, mP_0, mI_4, mP_4, mI_5, mP_5, mI_6, mP_6, mI_20, mP_20, mI_21, mP_21, mI_22, mP_22, mI_23, mP_23, mI_25, mP_25, mI_27, mP_27, mR_1, mG_1, mS_1, mR_2, mG_2, mS_2, mR_3, mG_3, mS_3, mR_7, mG_7, mS_7, mR_8, mG_8, mS_8, mR_9, mG_9, mS_9, mR_10, mG_10, mS_10, mR_11, mG_11, mS_11, mR_12, mG_12, mS_12, mR_13, mG_13, mS_13, mR_14, mG_14, mS_14, mR_15, mG_15, mS_15, mR_16, mG_16, mS_16, mR_17, mG_17, mS_17, mR_18, mG_18, mS_18, mR_19, mG_19, mS_19, mR_24, mG_24, mS_24, mR_26, mG_26, mS_26, mK_8, gS_1, gS_2, gA_1, gA_2, Option.bind_some, Option.bind_none, e1]
      generalize rd ls s lv n = z at *
      match z, hK, e2, e3 with
      | ((none, ls1, s1), lv1), hK, e2, e3 =>
        simp only [Option.isSome, Bool.false_eq_true, if_false, re_Z0, eq_self, if_true, if_false, ite_true, ite_false, bd_I, bd_V, bd_A, bd_L, re_I, re_V, Bool.true_and, Bool.and_true, reduceIte, reduceCtorEq, ↓reduceIte, Nat.reduceEqDiff]
        exact ⟨g1, rfl, e2, e4⟩
      | ((some [], ls1, s1), lv1), hK, e2, e3 =>
        have hA := e3 _ rfl
        simp only [Option.isSome, if_true, re_Z1, eq_self, if_true, if_false, ite_true, ite_false, bd_I, bd_V, bd_A, bd_L, re_I, re_V, Bool.true_and, Bool.and_true, reduceIte, reduceCtorEq, ↓reduceIte, Nat.reduceEqDiff, show ((1 : Int32) = 0) = False by decide, hA.1, List.length_nil, show (ni 0 = 0) = True by decide, mI_0, mP_0, mI_4, mP_4, mI_5, mP_5, mI_6, mP_6, mI_20, mP_20, mI_21, mP_21, mI_22, mP_22, mI_23, mP_23, mI_25, mP_25, mI_27, mP_27, mR_1, mG_1, mS_1, mR_2, mG_2, mS_2, mR_3, mG_3, mS_3, mR_7, mG_7, mS_7, mR_8, mG_8, mS_8, mR_9, mG_9, mS_9, mR_10, mG_10, mS_10, mR_11, mG_11, mS_11, mR_12, mG_12, mS_12, mR_13, mG_13, mS_13, mR_14, mG_14, mS_14, mR_15, mG_15, mS_15, mR_16, mG_16, mS_16, mR_17, mG_17, mS_17, mR_18, mG_18, mS_18, mR_19, mG_19, mS_19, mR_24, mG_24, mS_24, mR_26, mG_26, mS_26, mK_8, gS_1, gS_2, gA_1, gA_2, Option.bind_some, Option.bind_none]
        exact ⟨g1, rfl, e2, e4⟩
      | ((some (x :: bs), ls1, s1), lv1), hK, e2, e3 =>
        have hA := e3 _ rfl
        have h1 := hK.2.2.2.2 _ rfl
        have h2 := h1.1
        have h3 : 1 ≤ (x :: bs).length := by simp
        dsimp only
        generalize hss : x :: bs = ss at *
        obtain ⟨g2, q1, q2, q3, q4⟩ := M_putBag (m := m) (h := h) e2 hA (by omega) (by omega)
        have m0 : ¬ (ni ss.length = 0) := niNE (b := 0) (by omega) (by omega) (by omega)
        simp only [Option.isSome, if_true, re_Z1, eq_self, if_true, if_false, ite_true, ite_false, bd_I, bd_V, bd_A, bd_L, re_I, re_V, Bool.true_and, Bool.and_true, reduceIte, reduceCtorEq, ↓reduceIte, Nat.reduceEqDiff, show ((1 : Int32) = 0) = False by decide, hA.1, m0, q1, q3.1, ni_sub h2, mI_0, mP_0, mI_4, mP_4, mI_5, mP_5, mI_6, mP_6, mI_20, mP_20, mI_21, mP_21, mI_22, mP_22, mI_23, mP_23, mI_25, mP_25, mI_27, mP_27, mR_1, mG_1, mS_1, mR_2, mG_2, mS_2, mR_3, mG_3, mS_3, mR_7, mG_7, mS_7, mR_8, mG_8, mS_8, mR_9, mG_9, mS_9, mR_10, mG_10, mS_10, mR_11, mG_11, mS_11, mR_12, mG_12, mS_12, mR_13, mG_13, mS_13, mR_14, mG_14, mS_14, mR_15, mG_15, mS_15, mR_16, mG_16, mS_16, mR_17, mG_17, mS_17, mR_18, mG_18, mS_18, mR_19, mG_19, mS_19, mR_24, mG_24, mS_24, mR_26, mG_26, mS_26, mK_8, gS_1, gS_2, gA_1, gA_2, Option.bind_some, Option.bind_none]
        obtain ⟨g3, p1, p2, p3⟩ := ih (n - ss.length) F g2 ls1 s1 lv1 (bag ++ ss) q2 hK.1 (by rw [hK.2.1]; exact hL) hK.2.2.1 (by omega) (by omega) (by rw [List.length_append]; omega)
        exact ⟨g3, p1, p2, by rw [p3, q4, e4]⟩
theorem M_fill {m : Nat} {h : Hs_t} {g : Mg_t} {ls : List Ly_t} {s : Sr_t} {lv lvm cl : Int32} {bag lt : List Int32} (hR : RW g ls s lv lvm cl bag lt) (hv : iv_O ls s) (hL : ls.length ≤ 5) (hlv : lv = 0 ∨ lv = 1) {n : Nat} (hn : n ≤ 120) (hb : bag.length + n ≤ 160) : ∃ g', f_M_fill m (ni n) (MH m g h) = re_I (ni (fl n n ls s lv bag).1) (MH m g' h) ∧ RW g' (fl n n ls s lv bag).2.1 (fl n n ls s lv bag).2.2.1 (fl n n ls s lv bag).2.2.2.1 lvm cl (fl n n ls s lv bag).2.2.2.2 lt ∧ g'.1 0 = g.1 0 := by
  have := M_fill_b2 m h lvm cl lt n n (fu_N - n - 1) g ls s lv bag hR hv hL hlv (Nat.le_refl _) hn hb
  rw [show fu_N - n - 1 + n + 1 = fu_N by simp only [fu_N]; omega] at this
  exact this
