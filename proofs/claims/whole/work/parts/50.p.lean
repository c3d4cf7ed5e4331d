/-! Reading for a call: a request, without the 10 that belongs to a line ended by 13. -/
def rd (ls : List Ly_t) (s : Sr_t) (lv : Int32) (n : Nat) : Rq_t × Int32 := match rq ls n s with
  | (none, ls1, s1) => ((none, ls1, s1), lv)
  | (some [], ls1, s1) => ((some [], ls1, s1), lv)
  | (some (x :: bs), ls1, s1) => if lv = 0 then ((some (x :: bs), ls1, s1), lv) else if x = 10 then (match bs with
    | [] => (rq ls1 n s1, 0)
    | c :: bs => ((some (c :: bs), ls1, s1), 0)) else ((some (x :: bs), ls1, s1), 0)
/-- what reading keeps -/
def rd_K (ls : List Ly_t) (s : Sr_t) (n : Nat) (r : Rq_t × Int32) : Prop :=
  iv_O r.1.2.1 r.1.2.2 ∧ r.1.2.1.length = ls.length ∧ (r.2 = 0 ∨ r.2 = 1) ∧ (ph_N r.1.2.1 r.1.2.2 ≤ ph_N ls s) ∧ (∀ bs, r.1.1 = some bs → bs.length ≤ n ∧ by_A bs ∧ ph_N r.1.2.1 r.1.2.2 + bs.length ≤ ph_N ls s ∧ (bs ≠ [] → r.2 = 0))
theorem rq_ph {ls : List Ly_t} {n : Nat} {s : Sr_t} {z : Rq_t} (h : rq_K ls n s z) : ph_N z.2.1 z.2.2 ≤ ph_N ls s := by
  cases hz : z.1 with
  | none => rw [h.2.2.2.2.2.2.2.1 hz]; exact Nat.le_refl _
  | some bs => have := (h.2.2.2.2.2.2.2.2 bs hz).2.2; omega
theorem rd_iv (ls : List Ly_t) (s : Sr_t) (lv : Int32) (n : Nat) (hn : 1 ≤ n) (hv : iv_O ls s) (hlv : lv = 0 ∨ lv = 1) : rd_K ls s n (rd ls s lv n) := by
  have hK := rq_iv ls n s hn hv
  have hp := rq_ph hK
  unfold rd
  generalize rq ls n s = z at *
  match z, hK, hp with
  | (none, ls1, s1), hK, hp => exact ⟨hK.1, hK.2.1, hlv, hp, fun bs e => by cases e⟩
  | (some [], ls1, s1), hK, hp => exact ⟨hK.1, hK.2.1, hlv, hp, fun bs e => by cases e; exact ⟨Nat.zero_le _, by_nil, hp, fun e => absurd rfl e⟩⟩
  | (some (x :: bs), ls1, s1), hK, hp =>
    have hb := hK.2.2.2.2.2.2.2.2 _ rfl
    simp only
    by_cases h0 : lv = 0
    · rw [if_pos h0]
      exact ⟨hK.1, hK.2.1, hlv, hp, fun cs e => by cases e; exact ⟨hb.1, hb.2.1, Nat.le_of_eq hb.2.2, fun _ => h0⟩⟩
    · rw [if_neg h0]
      by_cases h10 : x = 10
      · rw [if_pos h10]
        cases bs with
        | nil =>
          have hK2 := rq_iv ls1 n s1 hn hK.1
          have hp2 := rq_ph hK2
          exact ⟨hK2.1, hK2.2.1.trans hK.2.1, Or.inl rfl, Nat.le_trans hp2 hp, fun cs e => by
            have := hK2.2.2.2.2.2.2.2.2 cs e
            exact ⟨this.1, this.2.1, by rw [this.2.2]; exact hp, fun _ => rfl⟩⟩
        | cons c bs =>
          refine ⟨hK.1, hK.2.1, Or.inl rfl, hp, fun cs e => by
            cases e
            refine ⟨by have := hb.1; simp only [List.length_cons] at *; omega, fun b hb2 => hb.2.1 b (by simp only [List.mem_cons] at *; exact Or.inr hb2), ?_, fun _ => rfl⟩
            have := hb.2.2
            simp only [List.length_cons] at *; omega⟩
      · rw [if_neg h10]
        exact ⟨hK.1, hK.2.1, Or.inl rfl, hp, fun cs e => by cases e; exact ⟨hb.1, hb.2.1, Nat.le_of_eq hb.2.2, fun _ => rfl⟩⟩
/-- the program's heap holds the whole tower -/
def RT (b : Nat) (as : List Nat) (h : Hs_t) (ls : List Ly_t) (s : Sr_t) (lv lvm cl : Int32) (bag lt : List Int32) : Prop :=
  h.2 b = some (ce_O 0 [.ref (b + 1), .ref (b + 5), .ref (b + 6), .ref (b + 7), .ref (b + 9), .ref (hd_N2 b as), .int (ni ls.length), .int cl, .int lv, .int lvm]) ∧
  (∃ fR, h.2 (b + 5) = some (ce_R 5 fR) ∧ ∀ j, j < 5 → fR j = as.reverse[j]?.map (· / 2)) ∧
  (∃ fa, h.2 (b + 6) = some (ce_I 120 fa)) ∧
  h.2 (b + 7) = some (ce_O 1 [.ref (b + 8), .int (ni bag.length)]) ∧ (∃ f, h.2 (b + 8) = some (ce_I 160 f) ∧ sl f 0 bag.length = bag) ∧
  h.2 (b + 9) = some (ce_O 1 [.ref (b + 10), .int (ni lt.length)]) ∧ (∃ f, h.2 (b + 10) = some (ce_I 118 f) ∧ sl f 0 lt.length = lt) ∧
  RLc b h as ls ∧ RSc b h s ∧ ok_A b as ∧ as.length = ls.length ∧ tp_N b as ≤ h.1
/-- what a call of the program leaves as it is -/
def FK (b : Nat) (h h' : Hs_t) : Prop := ∀ q, b + 11 ≤ q → q ≤ b + 30 → h'.2 q = h.2 q
theorem FK.trans {b : Nat} {h h1 h2 : Hs_t} (a : FK b h h1) (c : FK b h1 h2) : FK b h h2 := fun q p1 p2 => (c q p1 p2).trans (a q p1 p2)
theorem FK.refl (b : Nat) (h : Hs_t) : FK b h h := fun _ _ _ => rfl
/-- the tower, with the row of what was answered -/
theorem T_top {b : Nat} {as : List Nat} {h : Hs_t} {ls : List Ly_t} {s : Sr_t} {lv lvm cl : Int32} {bag lt : List Int32} (hT : RT b as h ls s lv lvm cl bag lt) (hv : iv_O ls s) (hL : ls.length ≤ 5) {n : Nat} (hn0 : 1 ≤ n) (hn : n ≤ 120) : ∃ h' fa', v_answer dp_N (hd_N2 b as) (ni n) (b + 6) (ni 0) h = re_I (rc_I (rq ls n s).1) h' ∧ RT b as h' (rq ls n s).2.1 (rq ls n s).2.2 lv lvm cl bag lt ∧ FK b h h' ∧ h'.1 = h.1 ∧ h'.2 (b + 6) = some (ce_I 120 fa') ∧ ∀ bs, (rq ls n s).1 = some bs → sl fa' 0 bs.length = bs := by
  obtain ⟨a1, a2, ⟨fa, a3⟩, a4, a5, a6, a7, a8, a9, a10, a11, a12⟩ := hT
  have hK := rq_iv ls n s hn0 hv
  have hfp : ∀ j, 5 ≤ j → j ≤ 30 → ¬ FP b as (b + j) := fun j h1 h2 e => by
    rcases e with e | e <;> omega
  have hfb : ¬ FP b as b := fun e => by rcases e with e | e <;> omega
  obtain ⟨h', f', e1, e2, e3, e4, e5, e6, e7, e8⟩ := T_answer b as ls dp_N s a10 hv a11 (by simp only [dp_N]; omega) n (b + 6) 0 120 fa h a8 a9 hn0 hn a3 (hfp 6 (by omega) (by omega)) (by omega) (by omega)
  refine ⟨h', f', e1, ⟨?_, ?_, ⟨f', e4⟩, ?_, ?_, ?_, ?_, e2, e3, a10, by rw [a11, hK.2.1], by rw [e7]; exact a12⟩, fun q q1 q2 => e8 q (fun e => by rcases e with e | e <;> omega) (by omega), e7, e4, e6⟩
  · rw [e8 b hfb (by omega), hK.2.1]; exact a1
  · rw [e8 _ (hfp 5 (by omega) (by omega)) (by omega)]; exact a2
  · rw [e8 _ (hfp 7 (by omega) (by omega)) (by omega)]; exact a4
  · rw [e8 _ (hfp 8 (by omega) (by omega)) (by omega)]; exact a5
  · rw [e8 _ (hfp 9 (by omega) (by omega)) (by omega)]; exact a6
  · rw [e8 _ (hfp 10 (by omega) (by omega)) (by omega)]; exact a7
/-- setting fields of the tower's own object -/
theorem RT.own {b : Nat} {as : List Nat} {h : Hs_t} {ls : List Ly_t} {s : Sr_t} {lv lvm cl lv' lvm' cl' : Int32} {bag lt : List Int32} (hT : RT b as h ls s lv lvm cl bag lt) : RT b as (hp_S h b (ce_O 0 [.ref (b + 1), .ref (b + 5), .ref (b + 6), .ref (b + 7), .ref (b + 9), .ref (hd_N2 b as), .int (ni ls.length), .int cl', .int lv', .int lvm'])) ls s lv' lvm' cl' bag lt := by
  obtain ⟨a1, a2, a3, a4, a5, a6, a7, a8, a9, a10, a11, a12⟩ := hT
  refine ⟨hp_at _ _ _, ?_, ?_, ?_, ?_, ?_, ?_, a8.frame a10 fun q q1 q2 => hp_ne _ _ _ _ (by omega), a9.frame fun q q1 q2 => hp_ne _ _ _ _ (by omega), a10, a11, a12⟩
  · rw [hp_ne _ _ _ _ (by omega)]; exact a2
  · rw [hp_ne _ _ _ _ (by omega)]; exact a3
  · rw [hp_ne _ _ _ _ (by omega)]; exact a4
  · rw [hp_ne _ _ _ _ (by omega)]; exact a5
  · rw [hp_ne _ _ _ _ (by omega)]; exact a6
  · rw [hp_ne _ _ _ _ (by omega)]; exact a7
theorem FK.set {b : Nat} {h : Hs_t} {a : Nat} {c : Ce_t} (ha : a < b + 11 ∨ b + 30 < a) : FK b h (hp_S h a c) := fun q q1 q2 => hp_ne _ _ _ _ (by omega)
theorem RT.row {b : Nat} {as : List Nat} {h : Hs_t} {ls : List Ly_t} {s : Sr_t} {lv lvm cl : Int32} {bag lt : List Int32} (hT : RT b as h ls s lv lvm cl bag lt) (f : Nat → Int32) : RT b as (hp_S h (b + 6) (ce_I 120 f)) ls s lv lvm cl bag lt := by
  obtain ⟨a1, a2, a3, a4, a5, a6, a7, a8, a9, a10, a11, a12⟩ := hT
  refine ⟨?_, ?_, ⟨f, hp_at _ _ _⟩, ?_, ?_, ?_, ?_, a8.frame a10 fun q q1 q2 => hp_ne _ _ _ _ (by omega), a9.frame fun q q1 q2 => hp_ne _ _ _ _ (by omega), a10, a11, a12⟩
  · rw [hp_ne _ _ _ _ (by omega)]; exact a1
  · rw [hp_ne _ _ _ _ (by omega)]; exact a2
  · rw [hp_ne _ _ _ _ (by omega)]; exact a4
  · rw [hp_ne _ _ _ _ (by omega)]; exact a5
  · rw [hp_ne _ _ _ _ (by omega)]; exact a6
  · rw [hp_ne _ _ _ _ (by omega)]; exact a7
theorem T_request {b : Nat} {as : List Nat} {h : Hs_t} {ls : List Ly_t} {s : Sr_t} {lv lvm cl : Int32} {bag lt : List Int32} (hT : RT b as h ls s lv lvm cl bag lt) (hv : iv_O ls s) (hL : ls.length ≤ 5) {n : Nat} (hn0 : 1 ≤ n) (hn : n ≤ 120) : ∃ h' fa', f_T_request b (ni n) h = re_I (rc_I (rd ls s lv n).1.1) h' ∧ RT b as h' (rd ls s lv n).1.2.1 (rd ls s lv n).1.2.2 (rd ls s lv n).2 lvm cl bag lt ∧ FK b h h' ∧ h'.1 = h.1 ∧ h'.2 (b + 6) = some (ce_I 120 fa') ∧ ∀ bs, (rd ls s lv n).1.1 = some bs → sl fa' 0 bs.length = bs := by
  have c0 := hT.1
  have hK := rq_iv ls n s hn0 hv
  obtain ⟨h1, f1, e1, e2, e3, e4, e5, e6⟩ := T_top hT hv hL hn0 hn
  rw [f_T_request]
  simp only [fd_I, fd_V, fd_A, pt_V, pt_Z, ar_I, ar_Z, ar_R, as_I, as_Z, cp_I, ln_A, ck_T, tg_O, hp_2, List.contains_cons, List.contains_nil, List.getElem?_cons_zero, List.getElem?_cons_succ, List.set_cons_succ, List.set_cons_zero, List.length_cons, List.length_nil, Option.bind_some, Option.bind_none, Nat.reduceLT, Nat.reduceAdd, Nat.reduceBEq, BEq.rfl, beq_self_eq_true, Bool.or_false, Bool.or_true, Bool.true_or, Bool.false_or, decide_true, decide_false, Bool.not_false, Bool.not_true, Nat.zero_lt_succ, Nat.lt_add_left_iff_pos, Nat.succ_ne_self, ne_eq, not_false_eq_true, eq_self, if_true, if_false, ite_true, ite_false, bd_I, bd_V, bd_A, bd_L, re_I, re_V, Bool.true_and, Bool.and_true, reduceIte, reduceCtorEq, ↓reduceIte, Nat.reduceEqDiff, c0, show (0 : Int32) = ni 0 from rfl, e1]
  unfold rd
  generalize rq ls n s = z at *
  match z, hK, e2, e6 with
  | (none, ls1, s1), hK, e2, e6 =>
    simp only [rc_I, if_true, f_T_request_b30]
    exact ⟨h1, f1, rfl, e2, e3, e4, e5, e6⟩
  | (some [], ls1, s1), hK, e2, e6 =>
    simp only [rc_I, List.length_nil, ni_m (show 0 < 2147483648 by omega), if_false, if_true, f_T_request_b30]
    exact ⟨h1, f1, rfl, e2, e3, e4, e5, e6⟩
  | (some (x :: bs), ls1, s1), hK, e2, e6 =>
    have hb := hK.2.2.2.2.2.2.2.2 _ rfl
    have hb1 := hb.1
    have hln : (x :: bs).length = bs.length + 1 := rfl
    have m0 : ¬ (ni (bs.length + 1) = ni 0) := niNE (by omega) (by omega) (by omega)
    have m1 : ¬ (ni (bs.length + 1) = -1) := ni_m (by omega)
    have c1 := e2.1
    have hx : f1 0 = x := by
      have := e6 _ rfl
      simp only [List.length_cons, sl, List.cons.injEq] at this
      exact this.1
    rw [show rc_I ((some (x :: bs), ls1, s1) : Rq_t).1 = ni (bs.length + 1) from rfl]
    simp only [m1, m0, if_false, c1, fd_I, fd_V, fd_A, pt_V, pt_Z, ar_I, ar_Z, ar_R, as_I, as_Z, cp_I, ln_A, ck_T, tg_O, hp_2, List.contains_cons, List.contains_nil, List.getElem?_cons_zero, List.getElem?_cons_succ, List.set_cons_succ, List.set_cons_zero, List.length_cons, List.length_nil, Option.bind_some, Option.bind_none, Nat.reduceLT, Nat.reduceAdd, Nat.reduceBEq, BEq.rfl, beq_self_eq_true, Bool.or_false, Bool.or_true, Bool.true_or, Bool.false_or, decide_true, decide_false, Bool.not_false, Bool.not_true, Nat.zero_lt_succ, Nat.lt_add_left_iff_pos, Nat.succ_ne_self, ne_eq, not_false_eq_true, eq_self, if_true, if_false, ite_true, ite_false, bd_I, bd_V, bd_A, bd_L, re_I, re_V, Bool.true_and, Bool.and_true, reduceIte, reduceCtorEq, ↓reduceIte, Nat.reduceEqDiff]
    by_cases hl : lv = ni 0
    · simp only [hl, if_true, f_T_request_b30, show ((0 : Int32) = ni 0) = True by decide, show (ni 0 = (0 : Int32)) = True by decide]
      subst hl
      exact ⟨h1, f1, rfl, e2, e3, e4, e5, e6⟩
    · have hl2 : ¬ (lv = 0) := hl
      have z0 : is_Z (ni 0) = true := by decide
      have r0 : in_R (ni 0) 120 = true := by decide
      have t0 : (ni 0).toNatClampNeg = 0 := by decide
      simp only [hl, hl2, if_false, z0, fd_I, fd_V, fd_A, pt_V, pt_Z, ar_I, ar_Z, ar_R, as_I, as_Z, cp_I, ln_A, ck_T, tg_O, hp_2, List.contains_cons, List.contains_nil, List.getElem?_cons_zero, List.getElem?_cons_succ, List.set_cons_succ, List.set_cons_zero, List.length_cons, List.length_nil, Option.bind_some, Option.bind_none, Nat.reduceLT, Nat.reduceAdd, Nat.reduceBEq, BEq.rfl, beq_self_eq_true, Bool.or_false, Bool.or_true, Bool.true_or, Bool.false_or, decide_true, decide_false, Bool.not_false, Bool.not_true, Nat.zero_lt_succ, Nat.lt_add_left_iff_pos, Nat.succ_ne_self, ne_eq, not_false_eq_true, eq_self, if_true, if_false, ite_true, ite_false, bd_I, bd_V, bd_A, bd_L, re_I, re_V, Bool.true_and, Bool.and_true, reduceIte, reduceCtorEq, ↓reduceIte, Nat.reduceEqDiff, e5, r0, t0, show ¬ b + 6 = b by omega, hx]
      have hT2 : RT b as (hp_S h1 b (ce_O 0 [.ref (b + 1), .ref (b + 5), .ref (b + 6), .ref (b + 7), .ref (b + 9), .ref (hd_N2 b as), .int (ni ls1.length), .int cl, .int (ni 0), .int lvm])) ls1 s1 (ni 0) lvm cl bag lt := e2.own
      have hF2 : FK b h (hp_S h1 b (ce_O 0 [.ref (b + 1), .ref (b + 5), .ref (b + 6), .ref (b + 7), .ref (b + 9), .ref (hd_N2 b as), .int (ni ls1.length), .int cl, .int (ni 0), .int lvm])) := e3.trans (FK.set (Or.inl (by omega)))
      have h61 : (hp_S h1 b (ce_O 0 [.ref (b + 1), .ref (b + 5), .ref (b + 6), .ref (b + 7), .ref (b + 9), .ref (hd_N2 b as), .int (ni ls1.length), .int cl, .int (ni 0), .int lvm])).2 (b + 6) = some (ce_I 120 f1) := by rw [hp_ne _ _ _ _ (by omega)]; exact e5
      by_cases h10 : x = 10
      · simp only [h10, if_true]
        cases bs with
        | nil =>
          simp only [List.length_cons, List.length_nil, Nat.zero_add, show (ni 1 = (1 : Int32)) = True by decide, if_true]
          obtain ⟨h3, f3, q1, q2, q3, q4, q5, q6⟩ := T_top hT2 hK.1 (by rw [hK.2.1]; exact hL) hn0 hn
          simp only [q1, eq_self, if_true, if_false, ite_true, ite_false, bd_I, bd_V, bd_A, bd_L, re_I, re_V, Bool.true_and, Bool.and_true, reduceIte, reduceCtorEq, ↓reduceIte, Nat.reduceEqDiff]
          exact ⟨h3, f3, rfl, q2, hF2.trans q3, by rw [q4]; exact e4, q5, q6⟩
        | cons c bs =>
          simp only [List.length_cons] at hb1
          have n1 : ¬ (ni (bs.length + 1 + 1) = 1) := niNE (b := 1) (by omega) (by omega) (by omega)
          have s1' : ni (bs.length + 1 + 1) - 1 = ni (bs.length + 1) := ni_s1 _
          have n2 : (ni (bs.length + 1)).toNatClampNeg = bs.length + 1 := ni_nat (by omega)
          have n3 : (1 : Int32).toNatClampNeg = 1 := by decide
          have d1 : decide (1 + (bs.length + 1) ≤ 120) = true := decide_eq_true (by omega)
          have d2 : decide (0 + (bs.length + 1) ≤ 120) = true := decide_eq_true (by omega)
          simp only [List.length_cons, n1, if_false, s1', h61, e5, n2, n3, t0, show ¬ (1 : Int32) < 0 by decide, show ¬ (1 : Int32) < ni 0 by decide, show ¬ ni 0 < ni 0 by decide, show ¬ ni 0 < 0 by decide, ni_nn (show bs.length + 1 < 2147483648 by omega), show ¬ (ni (bs.length + 1) < ni 0) from ni_nn (by omega), fd_I, fd_V, fd_A, pt_V, pt_Z, ar_I, ar_Z, ar_R, as_I, as_Z, cp_I, ln_A, ck_T, tg_O, hp_2, List.contains_cons, List.contains_nil, List.getElem?_cons_zero, List.getElem?_cons_succ, List.set_cons_succ, List.set_cons_zero, List.length_cons, List.length_nil, Option.bind_some, Option.bind_none, Nat.reduceLT, Nat.reduceAdd, Nat.reduceBEq, BEq.rfl, beq_self_eq_true, Bool.or_false, Bool.or_true, Bool.true_or, Bool.false_or, decide_true, decide_false, Bool.not_false, Bool.not_true, Nat.zero_lt_succ, Nat.lt_add_left_iff_pos, Nat.succ_ne_self, ne_eq, not_false_eq_true, eq_self, if_true, if_false, ite_true, ite_false, bd_I, bd_V, bd_A, bd_L, re_I, re_V, Bool.true_and, Bool.and_true, reduceIte, reduceCtorEq, ↓reduceIte, Nat.reduceEqDiff, show ¬ b + 6 = b by omega, d1, d2]
          refine ⟨_, _, rfl, hT2.row _, hF2.trans (FK.set (Or.inl (by omega))), e4, hp_at _ _ _, fun cs e => ?_⟩
          cases e
          have := e6 _ rfl
          rw [List.length_cons, sl_cpy]
          simp only [List.length_cons, sl, List.cons.injEq] at this
          simp only [sl, List.cons.injEq]
          exact this.2
      · simp only [h10, if_false]
        exact ⟨_, f1, rfl, hT2, hF2, e4, h61, e6⟩
