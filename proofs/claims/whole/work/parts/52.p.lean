/-! The program: rows, filling the bag. -/
theorem C_get {a cap : Nat} {l : List Int32} {f : Nat → Int32} {h : Hs_t} (h0 : h.2 a = some (ce_O 1 [.ref (a + 1), .int (ni l.length)])) (h1 : h.2 (a + 1) = some (ce_I cap f)) (h2 : sl f 0 l.length = l) (hl : l.length ≤ cap) (hc : cap ≤ 160) (x : Int32) : f_Row_get a x h = re_I (if x < 0 then -1 else if ni l.length ≤ x then -1 else f x.toNatClampNeg) h := by
  rw [f_Row_get]
  simp only [f_Row_get_b21, f_Row_get_b22]
  by_cases hx : x < 0
  · simp only [hx, if_true]
  · obtain ⟨n, rfl, hn⟩ := ni_of hx
    simp only [hx, if_false, fd_I, fd_V, fd_A, pt_V, pt_Z, ar_I, ar_Z, ar_R, as_I, as_Z, cp_I, ln_A, ck_T, tg_O, hp_2, List.contains_cons, List.contains_nil, List.getElem?_cons_zero, List.getElem?_cons_succ, List.set_cons_succ, List.set_cons_zero, List.length_cons, List.length_nil, Option.bind_some, Option.bind_none, Nat.reduceLT, Nat.reduceAdd, Nat.reduceBEq, BEq.rfl, beq_self_eq_true, Bool.or_false, Bool.or_true, Bool.true_or, Bool.false_or, decide_true, decide_false, Bool.not_false, Bool.not_true, Nat.zero_lt_succ, Nat.lt_add_left_iff_pos, Nat.succ_ne_self, ne_eq, not_false_eq_true, eq_self, if_true, if_false, ite_true, ite_false, bd_I, bd_V, bd_A, bd_L, re_I, re_V, Bool.true_and, Bool.and_true, reduceIte, reduceCtorEq, ↓reduceIte, Nat.reduceEqDiff, h0, h1]
    by_cases hn2 : ni l.length ≤ ni n
    · simp only [hn2, if_true]
    · have h3 : n < l.length := by
        by_cases q : l.length ≤ n
        · exact absurd (niL (by omega) hn q) hn2
        · omega
      simp only [hn2, if_false, ni_in_t hn (show n < cap by omega), eq_self, if_true, if_false, ite_true, ite_false, bd_I, bd_V, bd_A, bd_L, re_I, re_V, Bool.true_and, Bool.and_true, reduceIte, reduceCtorEq, ↓reduceIte, Nat.reduceEqDiff, Option.bind_some]
theorem C_get_in {a cap : Nat} {l : List Int32} {f : Nat → Int32} {h : Hs_t} (h0 : h.2 a = some (ce_O 1 [.ref (a + 1), .int (ni l.length)])) (h1 : h.2 (a + 1) = some (ce_I cap f)) (h2 : sl f 0 l.length = l) (hl : l.length ≤ cap) (hc : cap ≤ 160) (n : Nat) (hn : n < l.length) : f_Row_get a (ni n) h = re_I (l.getD n 0) h := by
  rw [C_get h0 h1 h2 hl hc, if_neg (ni_nn (by omega)), if_neg (niNL (by omega) (by omega) hn), ni_nat (by omega)]
  have := sl_at h2 n hn
  rw [Nat.zero_add] at this
  rw [this, List.getD_eq_getElem?_getD, List.getElem?_eq_getElem hn]; rfl
theorem C_add {a cap : Nat} {l : List Int32} {f : Nat → Int32} {h : Hs_t} (h0 : h.2 a = some (ce_O 1 [.ref (a + 1), .int (ni l.length)])) (h1 : h.2 (a + 1) = some (ce_I cap f)) (h2 : sl f 0 l.length = l) (hl : l.length < cap) (hc : cap ≤ 160) (x : Int32) : ∃ h' f', f_Row_add a x h = re_V h' ∧ h'.2 a = some (ce_O 1 [.ref (a + 1), .int (ni (l ++ [x]).length)]) ∧ h'.2 (a + 1) = some (ce_I cap f') ∧ sl f' 0 (l ++ [x]).length = l ++ [x] ∧ h'.1 = h.1 ∧ ∀ q, q ≠ a → q ≠ a + 1 → h'.2 q = h.2 q := by
  have e1 : in_R (ni l.length) cap = true := ni_in_t (by omega) hl
  have e2 : (ni l.length).toNatClampNeg = l.length := ni_nat (by omega)
  have e3 : ¬ (Int32.ofNat cap ≤ ni l.length) := niNL (a := cap) (by omega) (by omega) hl
  rw [f_Row_add]
  simp only [fd_I, fd_V, fd_A, pt_V, pt_Z, ar_I, ar_Z, ar_R, as_I, as_Z, cp_I, ln_A, ck_T, tg_O, hp_2, List.contains_cons, List.contains_nil, List.getElem?_cons_zero, List.getElem?_cons_succ, List.set_cons_succ, List.set_cons_zero, List.length_cons, List.length_nil, Option.bind_some, Option.bind_none, Nat.reduceLT, Nat.reduceAdd, Nat.reduceBEq, BEq.rfl, beq_self_eq_true, Bool.or_false, Bool.or_true, Bool.true_or, Bool.false_or, decide_true, decide_false, Bool.not_false, Bool.not_true, Nat.zero_lt_succ, Nat.lt_add_left_iff_pos, Nat.succ_ne_self, ne_eq, not_false_eq_true, eq_self, if_true, if_false, ite_true, ite_false, bd_I, bd_V, bd_A, bd_L, re_I, re_V, Bool.true_and, Bool.and_true, reduceIte, reduceCtorEq, ↓reduceIte, Nat.reduceEqDiff, h0, h1, e3, e1, e2, f_Row_add_b32, ni_p1, show ¬ a = a + 1 by omega]
  refine ⟨_, upd f l.length x, rfl, by rw [List.length_append]; exact hp_at _ _ _, by rw [hp_ne _ _ _ _ (by omega), hp_at], ?_, rfl, fun q q1 q2 => by rw [hp_ne _ _ _ _ q1, hp_ne _ _ _ _ q2]⟩
  rw [List.length_append]
  show sl (upd f l.length x) 0 (l.length + 1) = l ++ [x]
  rw [sl_snoc, sl_upd _ _ _ _ _ (by omega), h2]
  simp [upd]
theorem RT.bag {b : Nat} {as : List Nat} {h h' : Hs_t} {ls : List Ly_t} {s : Sr_t} {lv lvm cl : Int32} {bag bag' lt : List Int32} {f : Nat → Int32} (hT : RT b as h ls s lv lvm cl bag lt) (h1 : h'.2 (b + 7) = some (ce_O 1 [.ref (b + 8), .int (ni bag'.length)])) (h2 : h'.2 (b + 8) = some (ce_I 160 f)) (h3 : sl f 0 bag'.length = bag') (h4 : h'.1 = h.1) (hq : ∀ q, q ≠ b + 7 → q ≠ b + 8 → h'.2 q = h.2 q) : RT b as h' ls s lv lvm cl bag' lt := by
  obtain ⟨a1, a2, a3, a4, a5, a6, a7, a8, a9, a10, a11, a12⟩ := hT
  refine ⟨?_, ?_, ?_, h1, ⟨f, h2, h3⟩, ?_, ?_, a8.frame a10 fun q q1 q2 => hq q (by omega) (by omega), a9.frame fun q q1 q2 => hq q (by omega) (by omega), a10, a11, by rw [h4]; exact a12⟩
  · rw [hq _ (by omega) (by omega)]; exact a1
  · rw [hq _ (by omega) (by omega)]; exact a2
  · rw [hq _ (by omega) (by omega)]; exact a3
  · rw [hq _ (by omega) (by omega)]; exact a6
  · rw [hq _ (by omega) (by omega)]; exact a7
theorem RT.let {b : Nat} {as : List Nat} {h h' : Hs_t} {ls : List Ly_t} {s : Sr_t} {lv lvm cl : Int32} {bag lt lt' : List Int32} {f : Nat → Int32} (hT : RT b as h ls s lv lvm cl bag lt) (h1 : h'.2 (b + 9) = some (ce_O 1 [.ref (b + 10), .int (ni lt'.length)])) (h2 : h'.2 (b + 10) = some (ce_I 118 f)) (h3 : sl f 0 lt'.length = lt') (h4 : h'.1 = h.1) (hq : ∀ q, q ≠ b + 9 → q ≠ b + 10 → h'.2 q = h.2 q) : RT b as h' ls s lv lvm cl bag lt' := by
  obtain ⟨a1, a2, a3, a4, a5, a6, a7, a8, a9, a10, a11, a12⟩ := hT
  refine ⟨?_, ?_, ?_, ?_, ?_, h1, ⟨f, h2, h3⟩, a8.frame a10 fun q q1 q2 => hq q (by omega) (by omega), a9.frame fun q q1 q2 => hq q (by omega) (by omega), a10, a11, by rw [h4]; exact a12⟩
  · rw [hq _ (by omega) (by omega)]; exact a1
  · rw [hq _ (by omega) (by omega)]; exact a2
  · rw [hq _ (by omega) (by omega)]; exact a3
  · rw [hq _ (by omega) (by omega)]; exact a4
  · rw [hq _ (by omega) (by omega)]; exact a5
theorem T_addAll_b2 (b : Nat) (as : List Nat) (ls : List Ly_t) (s : Sr_t) (lv lvm cl : Int32) (lt : List Int32) (fa : Nat → Int32) (c : Nat) (hc : c ≤ 120) (d : Nat) : ∀ (i k : Nat) (bag : List Int32) (h : Hs_t), RT b as h ls s lv lvm cl bag lt → h.2 (b + 6) = some (ce_I 120 fa) → i + d = c → bag.length + d ≤ 160 → ∃ h', f_Row_addAll_b2 (k + d + 1) (b + 7) (b + 6) (ni c) (ni i) h = re_V h' ∧ RT b as h' ls s lv lvm cl (bag ++ sl fa i d) lt ∧ h'.2 (b + 6) = some (ce_I 120 fa) ∧ h'.1 = h.1 ∧ FK b h h' := by
  induction d with
  | zero =>
    intro i k bag h hT h6 hi hb
    rw [f_Row_addAll_b2, if_pos (niL (by omega) (by omega) (by omega))]
    exact ⟨h, rfl, by rw [show sl fa i 0 = [] from rfl, List.append_nil]; exact hT, h6, rfl, FK.refl _ _⟩
  | succ d ih =>
    intro i k bag h hT h6 hi hb
    obtain ⟨a1, a2, a3, a4, ⟨f8, a5, a5'⟩, a6, a7, a8, a9, a10, a11, a12⟩ := hT
    have h4 : in_R (ni i) 120 = true := ni_in_t (by omega) (by omega)
    have h5 : (ni i).toNatClampNeg = i := ni_nat (by omega)
    obtain ⟨h1, f1, e1, e2, e3, e4, e5, e6⟩ := C_add a4 a5 a5' (by omega) (by omega) (fa i)
    rw [show k + (d + 1) + 1 = (k + d + 1) + 1 by omega, f_Row_addAll_b2, if_neg (niNL (by omega) (by omega) (by omega))]
    simp only [fd_I, fd_V, fd_A, pt_V, pt_Z, ar_I, ar_Z, ar_R, as_I, as_Z, cp_I, ln_A, ck_T, tg_O, hp_2, List.contains_cons, List.contains_nil, List.getElem?_cons_zero, List.getElem?_cons_succ, List.set_cons_succ, List.set_cons_zero, List.length_cons, List.length_nil, Option.bind_some, Option.bind_none, Nat.reduceLT, Nat.reduceAdd, Nat.reduceBEq, BEq.rfl, beq_self_eq_true, Bool.or_false, Bool.or_true, Bool.true_or, Bool.false_or, decide_true, decide_false, Bool.not_false, Bool.not_true, Nat.zero_lt_succ, Nat.lt_add_left_iff_pos, Nat.succ_ne_self, ne_eq, not_false_eq_true, eq_self, if_true, if_false, ite_true, ite_false, bd_I, bd_V, bd_A, bd_L, re_I, re_V, Bool.true_and, Bool.and_true, reduceIte, reduceCtorEq, ↓reduceIte, Nat.reduceEqDiff, h6, h4, h5, a4, e1, ni_p1]
    have hT1 : RT b as h1 ls s lv lvm cl (bag ++ [fa i]) lt := RT.bag (h := h) ⟨a1, a2, a3, a4, ⟨f8, a5, a5'⟩, a6, a7, a8, a9, a10, a11, a12⟩ e2 e3 e4 e5 e6
    obtain ⟨h2, q1, q2, q3, q4, q5⟩ := ih (i + 1) k (bag ++ [fa i]) h1 hT1 (by rw [e6 _ (by omega) (by omega)]; exact h6) (by omega) (by rw [List.length_append]; simp only [List.length_cons, List.length_nil]; omega)
    exact ⟨h2, q1, by rw [List.append_assoc] at q2; exact q2, q3, by rw [q4, e5], FK.trans (fun q p1 p2 => e6 q (by omega) (by omega)) q5⟩
theorem T_addAll {b : Nat} {as : List Nat} {h : Hs_t} {ls : List Ly_t} {s : Sr_t} {lv lvm cl : Int32} {bag lt bs : List Int32} {fa : Nat → Int32} (hT : RT b as h ls s lv lvm cl bag lt) (h6 : h.2 (b + 6) = some (ce_I 120 fa)) (hs : sl fa 0 bs.length = bs) (hb : bs.length ≤ 120) (hbg : bag.length + bs.length ≤ 160) : ∃ h', f_Row_addAll (b + 7) (b + 6) (ni bs.length) h = re_V h' ∧ RT b as h' ls s lv lvm cl (bag ++ bs) lt ∧ h'.1 = h.1 ∧ FK b h h' := by
  obtain ⟨h', e1, e2, e3, e4, e5⟩ := T_addAll_b2 b as ls s lv lvm cl lt fa bs.length hb bs.length 0 (fu_N - bs.length - 1) bag h hT h6 (by omega) hbg
  rw [show fu_N - bs.length - 1 + bs.length + 1 = fu_N by simp only [fu_N]; omega] at e1
  rw [hs] at e2
  exact ⟨h', e1, e2, e4, e5⟩
/-- a thing thrown is new -/
theorem RT.new {b : Nat} {as : List Nat} {h : Hs_t} {ls : List Ly_t} {s : Sr_t} {lv lvm cl : Int32} {bag lt : List Int32} (hT : RT b as h ls s lv lvm cl bag lt) (c : Ce_t) : RT b as (hp_N h c) ls s lv lvm cl bag lt := by
  obtain ⟨a1, a2, a3, a4, a5, a6, a7, a8, a9, a10, a11, a12⟩ := hT
  have t := tp_ge a10
  have hq : ∀ q, q < h.1 → (hp_N h c).2 q = h.2 q := fun q hq => if_neg (by omega)
  refine ⟨?_, ?_, ?_, ?_, ?_, ?_, ?_, a8.frame a10 fun q q1 q2 => hq q (by omega), a9.frame fun q q1 q2 => hq q (by omega), a10, a11, by show _ ≤ h.1 + 1; omega⟩
  · rw [hq _ (by omega)]; exact a1
  · rw [hq _ (by omega)]; exact a2
  · rw [hq _ (by omega)]; exact a3
  · rw [hq _ (by omega)]; exact a4
  · rw [hq _ (by omega)]; exact a5
  · rw [hq _ (by omega)]; exact a6
  · rw [hq _ (by omega)]; exact a7
theorem RT.sz {b : Nat} {as : List Nat} {h : Hs_t} {ls : List Ly_t} {s : Sr_t} {lv lvm cl : Int32} {bag lt : List Int32} (hT : RT b as h ls s lv lvm cl bag lt) : b + 31 ≤ h.1 := by
  obtain ⟨a1, a2, a3, a4, a5, a6, a7, a8, a9, a10, a11, a12⟩ := hT
  have t := tp_ge a10
  omega
theorem FK.new {b : Nat} {h : Hs_t} {c : Ce_t} (hs : b + 31 ≤ h.1) : FK b h (hp_N h c) := fun q q1 q2 => if_neg (by omega)
/-- how a call of the program ends: it throws a thing of tag t and leaves the tower W -/
def ThR (b : Nat) (h : Hs_t) (F : Rs_t) (t : Nat) (P : List Nat → Hs_t → Prop) : Prop := ∃ x h' as', F = some (.threw x, h') ∧ tg_O h' x = some t ∧ P as' h' ∧ FK b h h'
theorem T_throw {b : Nat} {as : List Nat} {h0 h : Hs_t} {ls : List Ly_t} {s : Sr_t} {lv lvm cl : Int32} {bag lt : List Int32} (hT : RT b as h ls s lv lvm cl bag lt) (hF : FK b h0 h) (t : Nat) : ThR b h0 (th_N t h) t (fun as' h' => RT b as' h' ls s lv lvm cl bag lt) := by
  refine ⟨h.1, hp_N h (ce_O t []), as, rfl, ?_, hT.new _, hF.trans (FK.new hT.sz)⟩
  simp only [tg_O, hp_N, if_true]
theorem T_readAll_b4 (b : Nat) (lvm cl : Int32) (lt : List Int32) (h0 : Hs_t) (k : Nat) : ∀ (n x2 x3 F : Nat) (h : Hs_t) (as : List Nat) (ls : List Ly_t) (s : Sr_t) (lv : Int32) (bag : List Int32), RT b as h ls s lv lvm cl bag lt → FK b h0 h → iv_O ls s → ls.length ≤ 5 → (lv = 0 ∨ lv = 1) → x3 ≤ x2 → x2 ≤ n → n - x2 ≤ k → n ≤ 120 → bag.length + (n - x2) ≤ 160 →
    match (fl k (n - x2) ls s lv bag) with
    | (0, ls1, s1, lv1, bag1) => ∃ h', f_T_readAll_b4 (F + k + 1) b (ni n) (ni x2) (ni x3) h = re_V h' ∧ RT b as h' ls1 s1 lv1 lvm cl bag1 lt ∧ FK b h0 h'
    | (c + 1, ls1, s1, lv1, bag1) => ThR b h0 (f_T_readAll_b4 (F + k + 1) b (ni n) (ni x2) (ni x3) h) (10 + c) (fun as' h' => RT b as' h' ls1 s1 lv1 lvm cl bag1 lt) := by
  induction k with
  | zero =>
    intro n x2 x3 F h as ls s lv bag hT hF hv hL hlv h32 h2n hk hn hb
    have h0 : n - x2 = 0 := by omega
    rw [h0, f_T_readAll_b4]
    simp only [fl]
    refine ⟨h, ?_, hT, hF⟩
    split
    · rfl
    · rw [if_pos (niL (by omega) (by omega) (by omega))]; rfl
  | succ k ih =>
    intro n x2 x3 F h as ls s lv bag hT hF hv hL hlv h32 h2n hk hn hb
    rw [show F + (k + 1) + 1 = (F + k + 1) + 1 by omega, f_T_readAll_b4]
    simp only [fl]
    by_cases h0 : n - x2 = 0
    · simp only [h0, if_true]
      refine ⟨h, ?_, hT, hF⟩
      split
      · rfl
      · rw [if_pos (niL (by omega) (by omega) (by omega))]; rfl
    · rw [if_neg (niNL (by omega) (by omega) (by omega)), if_neg (niNL (by omega) (by omega) (by omega)), if_neg h0, ni_sub h2n]
      have hK := rd_iv ls s lv (n - x2) (by omega) hv hlv
      obtain ⟨h1, f1, e1, e2, e3, e4, e5, e6⟩ := T_request hT hv hL (n := n - x2) (by omega) (by omega)
      have hck : ck_T [0] h b = some 0 := by simp only [ck_T, tg_O, hT.1]; rfl
      simp only [hck, Option.bind_some, e1, bd_I, re_I]
      generalize rd ls s lv (n - x2) = z at *
      match z, hK, e2, e6 with
      | ((none, ls1, s1), lv1), hK, e2, e6 =>
        rw [show rc_I (((none, ls1, s1), lv1) : Rq_t × Int32).1.1 = -1 from rfl, if_pos rfl]
        exact T_throw e2 (hF.trans e3) 10
      | ((some [], ls1, s1), lv1), hK, e2, e6 =>
        rw [show rc_I (((some [], ls1, s1), lv1) : Rq_t × Int32).1.1 = 0 from rfl, if_neg (by decide), if_pos rfl]
        exact T_throw e2 (hF.trans e3) 11
      | ((some (x :: bs), ls1, s1), lv1), hK, e2, e6 =>
        have h1' := hK.2.2.2.2 _ rfl
        have h2' := h1'.1
        have h3' : 1 ≤ (x :: bs).length := by simp
        have hsl := e6 _ rfl
        dsimp only
        generalize hss : x :: bs = ss at *
        have m1 := ni_m (show ss.length < 2147483648 by omega)
        have m0 : ¬ (ni ss.length = 0) := niNE (b := 0) (by omega) (by omega) (by omega)
        have c1 := e2.1
        obtain ⟨h2, q1, q2, q3, q4⟩ := T_addAll e2 e5 hsl (by omega) (by omega)
        have a4 := e2.2.2.2.1
        simp only [rc_I, m1, m0, if_false, c1, a4, q1, fd_I, fd_V, fd_A, pt_V, pt_Z, ar_I, ar_Z, ar_R, as_I, as_Z, cp_I, ln_A, ck_T, tg_O, hp_2, List.contains_cons, List.contains_nil, List.getElem?_cons_zero, List.getElem?_cons_succ, List.set_cons_succ, List.set_cons_zero, List.length_cons, List.length_nil, Option.bind_some, Option.bind_none, Nat.reduceLT, Nat.reduceAdd, Nat.reduceBEq, BEq.rfl, beq_self_eq_true, Bool.or_false, Bool.or_true, Bool.true_or, Bool.false_or, decide_true, decide_false, Bool.not_false, Bool.not_true, Nat.zero_lt_succ, Nat.lt_add_left_iff_pos, Nat.succ_ne_self, ne_eq, not_false_eq_true, eq_self, if_true, if_false, ite_true, ite_false, bd_I, bd_V, bd_A, bd_L, re_I, re_V, Bool.true_and, Bool.and_true, reduceIte, reduceCtorEq, ↓reduceIte, Nat.reduceEqDiff, ni_add, ni_p1]
        have := ih n (x2 + ss.length) (x3 + 1) F h2 as ls1 s1 lv1 (bag ++ ss) q2 ((hF.trans e3).trans q4) hK.1 (by rw [hK.2.1]; exact hL) hK.2.2.1 (by omega) (by omega) (by omega) hn (by rw [List.length_append]; omega)
        rw [show n - (x2 + ss.length) = n - x2 - ss.length by omega] at this
        exact this
