/-! The program's heap as the tower. -/
theorem hp_2 (h : Hs_t) (a : Nat) (c : Ce_t) (q : Nat) : (hp_S h a c).2 q = if q = a then some c else h.2 q := rfl
theorem hp_1 (h : Hs_t) (a : Nat) (c : Ce_t) : (hp_S h a c).1 = h.1 := rfl
theorem hp_at (h : Hs_t) (a : Nat) (c : Ce_t) : (hp_S h a c).2 a = some c := if_pos rfl
theorem hp_ne (h : Hs_t) (a : Nat) (c : Ce_t) (q : Nat) (hq : q ≠ a) : (hp_S h a c).2 q = h.2 q := if_neg hq
theorem hp_SS (h : Hs_t) (a : Nat) (c c' : Ce_t) : hp_S (hp_S h a c) a c' = hp_S h a c' := by
  simp only [hp_S, Prod.mk.injEq, true_and]
  funext q; split <;> rfl
def hd_N2 (b : Nat) : List Nat → Nat
  | [] => b + 1
  | e :: _ => e / 2
def tp_N (b : Nat) : List Nat → Nat
  | [] => b + 31
  | e :: _ => e / 2 + 1 + e % 2
def ok_A (b : Nat) : List Nat → Prop
  | [] => True
  | e :: as => tp_N b as ≤ e / 2 ∧ ok_A b as
def FP (b : Nat) (as : List Nat) (q : Nat) : Prop := (b + 1 ≤ q ∧ q ≤ b + 4) ∨ (b + 31 ≤ q ∧ q < tp_N b as)
theorem tp_ge {b : Nat} {as : List Nat} (h : ok_A b as) : b + 31 ≤ tp_N b as := by
  induction as with
  | nil => exact Nat.le_refl _
  | cons a as ih => have := ih h.2; have := h.1; simp only [tp_N]; omega
theorem hd_fp {b : Nat} {as : List Nat} (h : ok_A b as) : FP b as (hd_N2 b as) := by
  cases as with
  | nil => exact Or.inl ⟨Nat.le_refl _, by simp only [hd_N2]; omega⟩
  | cons a as => have := tp_ge h.2; have := h.1; exact Or.inr ⟨by simp only [hd_N2]; omega, by simp only [hd_N2, tp_N]; omega⟩
def RC (bl a : Nat) (h : Hs_t) : Ly_t → Prop
  | .inl (rm, kp, tg, mq) => ∃ fi f mz ml, h.2 a = some (ce_O 3 [.ref bl, .int (ni rm), .ref (a + 1), .int (ni fi), .int (ni (fi + kp.length)), .int (ni (fi + kp.length + tg.length)), .int mz, .int ml]) ∧ h.2 (a + 1) = some (ce_I (32 + rm) f) ∧ sl f fi kp.length = kp ∧ sl f (fi + kp.length) tg.length = tg ∧ fi + kp.length + tg.length ≤ 32 + rm ∧ (match mq with | none => mz = 0 | some l => mz = 1 ∧ ml = ni l)
  | .inr (.inl (rm, st)) => ∃ f, h.2 a = some (ce_O 4 [.ref bl, .ref (a + 1), .int (ni st.length)]) ∧ h.2 (a + 1) = some (ce_I rm f) ∧ sl f 0 st.length = st.reverse
  | .inr (.inr (.inl (lf, lm))) => h.2 a = some (ce_O 5 [.ref bl, .int (ni lf), .int (ni lm)])
  | .inr (.inr (.inr (.inl (key, cd, cm)))) => h.2 a = some (ce_O 6 [.ref bl, .int key, .int cd, .int cm])
  | .inr (.inr (.inr (.inr (e, em, cr, crm)))) => h.2 a = some (ce_O 7 [.ref bl, .int e, .int em, .int cr, .int crm])
def tw_L : Ly_t → Nat
  | .inl _ => 1
  | .inr (.inl _) => 1
  | _ => 0
theorem RC.frame {bl a : Nat} {h h' : Hs_t} {L : Ly_t} (hR : RC bl a h L) (h0 : h'.2 a = h.2 a) (h1 : tw_L L = 1 → h'.2 (a + 1) = h.2 (a + 1)) : RC bl a h' L := by
  match L, hR, h1 with
  | .inl (rm, kp, tg, mq), hR, h1 => simp only [RC] at hR ⊢; rw [h0, h1 rfl]; exact hR
  | .inr (.inl (rm, st)), hR, h1 => simp only [RC] at hR ⊢; rw [h0, h1 rfl]; exact hR
  | .inr (.inr (.inl (lf, lm))), hR, _ => simp only [RC] at hR ⊢; rw [h0]; exact hR
  | .inr (.inr (.inr (.inl (key, cd, cm)))), hR, _ => simp only [RC] at hR ⊢; rw [h0]; exact hR
  | .inr (.inr (.inr (.inr (e, em, cr, crm)))), hR, _ => simp only [RC] at hR ⊢; rw [h0]; exact hR
def RLc (b : Nat) (h : Hs_t) : List Nat → List Ly_t → Prop
  | [], [] => True
  | e :: as, L :: ls => (RC (hd_N2 b as) (e / 2) h L ∧ e % 2 = tw_L L) ∧ RLc b h as ls
  | [], _ :: _ => False
  | _ :: _, [] => False
def RSc (b : Nat) (h : Hs_t) (s : Sr_t) : Prop := h.2 (b + 1) = some (ce_O 2 [.ref (b + 2), .ref (b + 3), .ref (b + 4), .int (ni s.2.2.2.1), .int (ni s.2.2.2.2)]) ∧ h.2 (b + 2) = some (ce_I 120 s.1) ∧ (∃ f, h.2 (b + 3) = some (ce_Z 121 f) ∧ ∀ j, 1 ≤ j → f j = s.2.1 j) ∧ h.2 (b + 4) = some (ce_Z 121 s.2.2.1)
theorem RSc.frame {b : Nat} {h h' : Hs_t} {s : Sr_t} (hR : RSc b h s) (hq : ∀ q, b + 1 ≤ q → q ≤ b + 4 → h'.2 q = h.2 q) : RSc b h' s := by
  unfold RSc at hR ⊢
  rw [hq (b + 1) (by omega) (by omega), hq (b + 2) (by omega) (by omega), hq (b + 3) (by omega) (by omega), hq (b + 4) (by omega) (by omega)]
  exact hR
theorem RLc.frame {b : Nat} {h h' : Hs_t} : ∀ {as : List Nat} {ls : List Ly_t}, ok_A b as → RLc b h as ls → (∀ q, b + 31 ≤ q → q < tp_N b as → h'.2 q = h.2 q) → RLc b h' as ls
  | [], [], _, _, _ => trivial
  | a :: as, L :: ls, hk, hR, hq => by
    have h1 := tp_ge hk.2
    have h2 := hk.1
    refine ⟨⟨hR.1.1.frame (hq _ (by omega) (by simp only [tp_N]; omega)) (fun e2 => hq _ (by omega) (by have := hR.1.2; simp only [tp_N]; omega)), hR.1.2⟩, hR.2.frame hk.2 fun q q1 q2 => hq q q1 (by simp only [tp_N]; omega)⟩
  | [], _ :: _, _, hR, _ => hR.elim
  | _ :: _, [], _, hR, _ => hR.elim
def rc_I : Option (List Int32) → Int32
  | none => -1
  | some bs => ni bs.length
/-- what a request does to the program's heap -/
def an_K (b : Nat) (as : List Nat) (h : Hs_t) (r : Nat) (fr len : Nat) (f : Nat → Int32) (F : Rs_t) (z : Rq_t) : Prop :=
  ∃ h' f', F = re_I (rc_I z.1) h' ∧ RLc b h' as z.2.1 ∧ RSc b h' z.2.2 ∧ h'.2 r = some (ce_I len f') ∧ (∀ j, j < fr → f' j = f j) ∧ (∀ bs, z.1 = some bs → sl f' fr bs.length = bs) ∧ h'.1 = h.1 ∧ ∀ q, ¬ FP b as q → q ≠ r → h'.2 q = h.2 q
theorem S_ready_b5 (b : Nat) (h : Hs_t) (s : Sr_t) (hs : RSc b h s) (ho : sr_O s) (d : Nat) : ∀ (e k : Nat), s.2.2.2.2 ≤ e → e + d = s.2.2.2.1 → f_Src_ready_b5 (k + d + 1) (b + 1) (ni e) h = re_I (ni (pe_N s.2.1 s.2.2.2.1 s.2.2.2.2 d e - s.2.2.2.2)) h := by
  obtain ⟨a1, a2, ⟨f, a3, a4⟩, a5⟩ := hs
  have o1 := ho.1; have o2 := ho.2.1
  induction d with
  | zero =>
    intro e k he hd
    rw [f_Src_ready_b5]
    simp only [fd_I, fd_V, fd_A, pt_V, pt_Z, ar_I, ar_Z, ar_R, as_I, as_Z, cp_I, ln_A, ck_T, tg_O, hp_2, List.contains_cons, List.contains_nil, List.getElem?_cons_zero, List.getElem?_cons_succ, List.set_cons_succ, List.set_cons_zero, List.length_cons, List.length_nil, Option.bind_some, Option.bind_none, Nat.reduceLT, Nat.reduceAdd, Nat.reduceBEq, BEq.rfl, beq_self_eq_true, Bool.or_false, Bool.or_true, Bool.true_or, Bool.false_or, decide_true, decide_false, Bool.not_false, Bool.not_true, Nat.zero_lt_succ, Nat.lt_add_left_iff_pos, Nat.succ_ne_self, ne_eq, not_false_eq_true, eq_self, if_true, if_false, ite_true, ite_false, bd_I, bd_V, bd_A, bd_L, re_I, re_V, Bool.true_and, Bool.and_true, reduceIte, reduceCtorEq, ↓reduceIte, Nat.reduceEqDiff, a1, f_Src_ready_b36, pe_N]
    rw [if_pos (niL (by omega) (by omega) (by omega)), ni_sub he]
  | succ d ih =>
    intro e k he hd
    have h3 : in_R (ni e) 121 = true := ni_in_t (by omega) (by omega)
    have h5 : (ni e).toNatClampNeg = e := ni_nat (by omega)
    rw [show k + (d + 1) + 1 = (k + d + 1) + 1 by omega]
    rw [f_Src_ready_b5]
    simp only [fd_I, fd_V, fd_A, pt_V, pt_Z, ar_I, ar_Z, ar_R, as_I, as_Z, cp_I, ln_A, ck_T, tg_O, hp_2, List.contains_cons, List.contains_nil, List.getElem?_cons_zero, List.getElem?_cons_succ, List.set_cons_succ, List.set_cons_zero, List.length_cons, List.length_nil, Option.bind_some, Option.bind_none, Nat.reduceLT, Nat.reduceAdd, Nat.reduceBEq, BEq.rfl, beq_self_eq_true, Bool.or_false, Bool.or_true, Bool.true_or, Bool.false_or, decide_true, decide_false, Bool.not_false, Bool.not_true, Nat.zero_lt_succ, Nat.lt_add_left_iff_pos, Nat.succ_ne_self, ne_eq, not_false_eq_true, eq_self, if_true, if_false, ite_true, ite_false, bd_I, bd_V, bd_A, bd_L, re_I, re_V, Bool.true_and, Bool.and_true, reduceIte, reduceCtorEq, ↓reduceIte, Nat.reduceEqDiff, a1, a3, f_Src_ready_b36, pe_N, f_Src_ready_b30, h3, h5]
    rw [if_neg (niNL (by omega) (by omega) (by omega)), ni_p1, ih (e + 1) k (by omega) (by omega)]
    by_cases h1 : e = s.2.2.2.2
    · rw [if_pos (by rw [h1]), if_pos ⟨by omega, Or.inl h1⟩]; rfl
    · rw [if_neg (niNE (by omega) (by omega) h1), a4 e (by omega)]
      by_cases h2 : s.2.1 e = 0
      · rw [if_pos h2, if_pos ⟨by omega, Or.inr h2⟩]; rfl
      · rw [if_neg h2, if_neg (fun q => q.2.elim h1 h2), ni_sub he]
theorem S_ready (b : Nat) (h : Hs_t) (s : Sr_t) (hs : RSc b h s) (ho : sr_O s) : f_Src_ready (b + 1) h = re_I (ni (pl_N s)) h := by
  have e := S_ready_b5 b h s hs ho (s.2.2.2.1 - s.2.2.2.2) s.2.2.2.2 (fu_N - (s.2.2.2.1 - s.2.2.2.2) - 1) (Nat.le_refl _) (by have := ho.1; omega)
  rw [show fu_N - (s.2.2.2.1 - s.2.2.2.2) - 1 + (s.2.2.2.1 - s.2.2.2.2) + 1 = fu_N by have := ho.2.1; simp only [fu_N]; omega] at e
  rw [f_Src_ready]
  simp only [fd_I, fd_V, fd_A, pt_V, pt_Z, ar_I, ar_Z, ar_R, as_I, as_Z, cp_I, ln_A, ck_T, tg_O, hp_2, List.contains_cons, List.contains_nil, List.getElem?_cons_zero, List.getElem?_cons_succ, List.set_cons_succ, List.set_cons_zero, List.length_cons, List.length_nil, Option.bind_some, Option.bind_none, Nat.reduceLT, Nat.reduceAdd, Nat.reduceBEq, BEq.rfl, beq_self_eq_true, Bool.or_false, Bool.or_true, Bool.true_or, Bool.false_or, decide_true, decide_false, Bool.not_false, Bool.not_true, Nat.zero_lt_succ, Nat.lt_add_left_iff_pos, Nat.succ_ne_self, ne_eq, not_false_eq_true, eq_self, if_true, if_false, ite_true, ite_false, bd_I, bd_V, bd_A, bd_L, re_I, re_V, Bool.true_and, Bool.and_true, reduceIte, reduceCtorEq, ↓reduceIte, Nat.reduceEqDiff, hs.1]
  exact e
theorem mn_I {a b : Nat} (ha : a < 2147483648) (hb : b < 2147483648) : (if ni a < ni b then ni a else ni b) = ni (min b a) := by
  by_cases h : a < b
  · rw [if_pos (niT ha hb h), show min b a = a by omega]
  · rw [if_neg (niNT ha hb (by omega)), show min b a = b by omega]
theorem S_answer (b d n r fr len : Nat) (f : Nat → Int32) (h : Hs_t) (s : Sr_t) (hs : RSc b h s) (ho : sr_O s) (hn : n ≤ 120) (hr : h.2 r = some (ce_I len f)) (hf : ¬ FP b [] r) (hl : fr + n ≤ len) (hl2 : len ≤ 120) : an_K b [] h r fr len f (v_answer (d + 1) (b + 1) (ni n) r (ni fr) h) (rq [] n s) := by
  have o1 := ho.1; have o2 := ho.2.1
  have hp := pl_le s ho.1
  have h3 : in_R (ni s.2.2.2.2) 121 = true := ni_in_t (by omega) (by omega)
  have h5 : (ni s.2.2.2.2).toNatClampNeg = s.2.2.2.2 := ni_nat (by omega)
  have hrd := S_ready b h s hs ho
  have hne : ∀ j, 1 ≤ j → j ≤ 4 → ¬ r = b + j := fun j h1 h2 e => hf (Or.inl ⟨by omega, by omega⟩)
  obtain ⟨a1, a2, ⟨f3, a3, a4⟩, a5⟩ := hs
  rw [v_answer]
  simp only [tg_O, a1, if_true]
  rw [f_Src_answer]
  simp only [fd_I, fd_V, fd_A, pt_V, pt_Z, ar_I, ar_Z, ar_R, as_I, as_Z, cp_I, ln_A, ck_T, tg_O, hp_2, List.contains_cons, List.contains_nil, List.getElem?_cons_zero, List.getElem?_cons_succ, List.set_cons_succ, List.set_cons_zero, List.length_cons, List.length_nil, Option.bind_some, Option.bind_none, Nat.reduceLT, Nat.reduceAdd, Nat.reduceBEq, BEq.rfl, beq_self_eq_true, Bool.or_false, Bool.or_true, Bool.true_or, Bool.false_or, decide_true, decide_false, Bool.not_false, Bool.not_true, Nat.zero_lt_succ, Nat.lt_add_left_iff_pos, Nat.succ_ne_self, ne_eq, not_false_eq_true, eq_self, if_true, if_false, ite_true, ite_false, bd_I, bd_V, bd_A, bd_L, re_I, re_V, Bool.true_and, Bool.and_true, reduceIte, reduceCtorEq, ↓reduceIte, Nat.reduceEqDiff, a1, a5, h3, h5, hrd, rq]
  by_cases hb : s.2.2.1 s.2.2.2.2 = 0
  · rw [if_pos hb, if_neg (show ¬ (s.2.2.1 s.2.2.2.2 ≠ 0) from fun q => q hb)]
    have n2 : (ni (min n (pl_N s))).toNatClampNeg = min n (pl_N s) := ni_nat (by omega)
    have n3 : (ni fr).toNatClampNeg = fr := ni_nat (by omega)
    simp only [mn_I (show pl_N s < 2147483648 by omega) (show n < 2147483648 by omega), a2, hr, n2, n3, h5, ni_nn (show s.2.2.2.2 < 2147483648 by omega), ni_nn (show fr < 2147483648 by omega), ni_nn (show min n (pl_N s) < 2147483648 by omega), show decide (s.2.2.2.2 + min n (pl_N s) ≤ 120) = true from decide_eq_true (by omega), show decide (fr + min n (pl_N s) ≤ len) = true from decide_eq_true (by omega), fd_I, fd_V, fd_A, pt_V, pt_Z, ar_I, ar_Z, ar_R, as_I, as_Z, cp_I, ln_A, ck_T, tg_O, hp_2, List.contains_cons, List.contains_nil, List.getElem?_cons_zero, List.getElem?_cons_succ, List.set_cons_succ, List.set_cons_zero, List.length_cons, List.length_nil, Option.bind_some, Option.bind_none, Nat.reduceLT, Nat.reduceAdd, Nat.reduceBEq, BEq.rfl, beq_self_eq_true, Bool.or_false, Bool.or_true, Bool.true_or, Bool.false_or, decide_true, decide_false, Bool.not_false, Bool.not_true, Nat.zero_lt_succ, Nat.lt_add_left_iff_pos, Nat.succ_ne_self, ne_eq, not_false_eq_true, eq_self, if_true, if_false, ite_true, ite_false, bd_I, bd_V, bd_A, bd_L, re_I, re_V, Bool.true_and, Bool.and_true, reduceIte, reduceCtorEq, ↓reduceIte, Nat.reduceEqDiff, a1, ni_add, if_neg (show ¬ b + 1 = r from fun e => hne 1 (by omega) (by omega) e.symm)]
    refine ⟨hp_S (hp_S h r (ce_I len (va_cpy s.1 f s.2.2.2.2 fr (min n (pl_N s))))) (b + 1) (ce_O 2 [.ref (b + 2), .ref (b + 3), .ref (b + 4), .int (ni s.2.2.2.1), .int (ni (s.2.2.2.2 + min n (pl_N s)))]), va_cpy s.1 f s.2.2.2.2 fr (min n (pl_N s)), by simp only [rc_I, sl_len]; rfl, trivial, ?_, ?_, fun j hj => cpy_out _ _ _ _ _ _ (Or.inl hj), ?_, rfl, ?_⟩
    · refine ⟨?_, ?_, ⟨f3, ?_, a4⟩, ?_⟩
      · simp only [hp_2, if_true]
      · rw [hp_ne _ _ _ _ (by omega), hp_ne _ _ _ _ (fun e => hne 2 (by omega) (by omega) e.symm)]; exact a2
      · rw [hp_ne _ _ _ _ (by omega), hp_ne _ _ _ _ (fun e => hne 3 (by omega) (by omega) e.symm)]; exact a3
      · rw [hp_ne _ _ _ _ (by omega), hp_ne _ _ _ _ (fun e => hne 4 (by omega) (by omega) e.symm)]; exact a5
    · rw [hp_ne _ _ _ _ (hne 1 (by omega) (by omega)), hp_at]
    · intro bs hbs
      cases hbs
      rw [sl_len, sl_cpy]
    · intro q hq hq2
      rw [hp_ne _ _ _ _ (fun e => hq (Or.inl ⟨by omega, by omega⟩)), hp_ne _ _ _ _ hq2]
  · rw [if_neg hb, if_pos hb]
    exact ⟨h, f, rfl, trivial, ⟨a1, a2, ⟨f3, a3, a4⟩, a5⟩, hr, fun _ _ => rfl, fun bs hbs => (by cases hbs), rfl, fun _ _ _ => rfl⟩
