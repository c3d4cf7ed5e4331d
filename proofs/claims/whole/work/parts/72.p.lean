theorem fl_2 (k : Nat) : ∀ (n : Nat) (ls : List Ly_t) (s : Sr_t) (lv : Int32) (bag : List Int32), (fl k n ls s lv bag).1 ≤ 2 := by
  induction k with
  | zero => intro n ls s lv bag; simp [fl]
  | succ k ih =>
    intro n ls s lv bag
    simp only [fl]
    split
    · simp
    · generalize rd ls s lv n = z
      match z with
      | ((none, ls1, s1), lv1) => simp
      | ((some [], ls1, s1), lv1) => simp
      | ((some (x :: bs), ls1, s1), lv1) => exact ih _ _ _ _ _
theorem ho_feed (w : Wd_t) (v x : Int32) : (∃ v0, (op_feed w v x).1 = .inl (some (.int v0))) ∨ ∃ t, (op_feed w v x).1 = .inr t ∧ (∀ (x : Nat) (hx : Hs_t), (fun t9 _ hx => if t9 = 9 then re_I 1 hx else (if t9 = 10 then re_I 2 hx else (none))) t x hx = re_I ((fun t : Nat => ((if t = 9 then 1 else 2) : Int32)) t) hx) ∧ ((fun t : Nat => ((if t = 9 then 1 else 2) : Int32)) t) ≠ 0 := by
  obtain ⟨ls, s, lv, lvm, cl, bag, lt⟩ := w
  simp only [op_feed]
  split
  · exact Or.inr ⟨9, rfl, fun _ _ => rfl, by decide⟩
  · split
    · split
      · exact Or.inl ⟨_, rfl⟩
      · exact Or.inr ⟨10, rfl, fun _ _ => rfl, by decide⟩
    · exact Or.inr ⟨9, rfl, fun _ _ => rfl, by decide⟩
theorem ho_push (w : Wd_t) (k x : Int32) : (∃ v0, (op_push w k x).1 = .inl (some (.int v0))) ∨ ∃ t, (op_push w k x).1 = .inr t ∧ (∀ (x : Nat) (hx : Hs_t), (fun t9 _ hx => if t9 = 9 then re_I 1 hx else (if t9 = 10 then re_I 2 hx else (none))) t x hx = re_I ((fun t : Nat => ((if t = 9 then 1 else 2) : Int32)) t) hx) ∧ ((fun t : Nat => ((if t = 9 then 1 else 2) : Int32)) t) ≠ 0 := by
  obtain ⟨ls, s, lv, lvm, cl, bag, lt⟩ := w
  simp only [op_push]
  split
  · split
    · split
      · exact Or.inl ⟨_, rfl⟩
      · exact Or.inr ⟨10, rfl, fun _ _ => rfl, by decide⟩
    · exact Or.inr ⟨10, rfl, fun _ _ => rfl, by decide⟩
  · exact Or.inr ⟨9, rfl, fun _ _ => rfl, by decide⟩
theorem ho_read (w : Wd_t) : (∃ v0, (op_read w).1 = .inl (some (.int v0))) ∨ ∃ t, (op_read w).1 = .inr t ∧ (∀ (x : Nat) (hx : Hs_t), (fun t9 _ hx => if t9 = 10 then re_I 1 hx else (none)) t x hx = re_I ((fun t : Nat => ((1) : Int32)) t) hx) ∧ ((fun t : Nat => ((1) : Int32)) t) ≠ 0 := by
  obtain ⟨ls, s, lv, lvm, cl, bag, lt⟩ := w
  simp only [op_read]
  split
  · generalize rd ls s lv 1 = z
    match z with
    | ((none, ls1, s1), lv1) => exact Or.inr ⟨10, rfl, fun _ _ => rfl, by decide⟩
    | ((some bs, ls1, s1), lv1) => exact Or.inl ⟨_, rfl⟩
  · exact Or.inr ⟨10, rfl, fun _ _ => rfl, by decide⟩
theorem ho_some (w : Wd_t) (x : Int32) : (∃ v0, (op_some w x).1 = .inl (some (.int v0))) ∨ ∃ t, (op_some w x).1 = .inr t ∧ (∀ (x : Nat) (hx : Hs_t), (fun t9 _ hx => if t9 = 9 then re_I 1 hx else (if t9 = 10 then re_I 2 hx else (none))) t x hx = re_I ((fun t : Nat => ((if t = 9 then 1 else 2) : Int32)) t) hx) ∧ ((fun t : Nat => ((if t = 9 then 1 else 2) : Int32)) t) ≠ 0 := by
  obtain ⟨ls, s, lv, lvm, cl, bag, lt⟩ := w
  simp only [op_some]
  split
  · split
    · exact Or.inr ⟨9, rfl, fun _ _ => rfl, by decide⟩
    · split
      · generalize rd ls s lv x.toNatClampNeg = z
        match z with
        | ((none, ls1, s1), lv1) => exact Or.inr ⟨10, rfl, fun _ _ => rfl, by decide⟩
        | ((some bs, ls1, s1), lv1) => exact Or.inl ⟨_, rfl⟩
      · exact Or.inr ⟨9, rfl, fun _ _ => rfl, by decide⟩
  · exact Or.inr ⟨10, rfl, fun _ _ => rfl, by decide⟩
theorem ho_full (w : Wd_t) (x : Int32) : ((op_full w x).1 = .inl none) ∨ ∃ t, (op_full w x).1 = .inr t ∧ (∀ (x : Nat) (hx : Hs_t), (fun t9 _ hx => if t9 = 9 then re_I 1 hx else (if t9 = 10 then re_I 2 hx else (if t9 = 11 then re_I 3 hx else (none)))) t x hx = re_I ((fun t : Nat => ((if t = 9 then 1 else if t = 10 then 2 else 3) : Int32)) t) hx) := by
  obtain ⟨ls, s, lv, lvm, cl, bag, lt⟩ := w
  simp only [op_full]
  split
  · split
    · exact Or.inr ⟨9, rfl, fun _ _ => rfl⟩
    · split
      · have hK := fl_2 x.toNatClampNeg x.toNatClampNeg ls s lv []
        generalize fl x.toNatClampNeg x.toNatClampNeg ls s lv [] = z at *
        match z, hK with
        | (0, ls1, s1, lv1, bag1), hK => exact Or.inl rfl
        | (1, ls1, s1, lv1, bag1), hK => exact Or.inr ⟨10, rfl, fun _ _ => rfl⟩
        | (2, ls1, s1, lv1, bag1), hK => exact Or.inr ⟨11, rfl, fun _ _ => rfl⟩
        | (c + 3, ls1, s1, lv1, bag1), hK => exact absurd hK (by simp)
      · exact Or.inr ⟨9, rfl, fun _ _ => rfl⟩
  · exact Or.inr ⟨10, rfl, fun _ _ => rfl⟩
theorem ho_number (w : Wd_t) (x : Int32) : (∃ v0, (op_number w x).1 = .inl (some (.long v0))) ∨ ∃ t, (op_number w x).1 = .inr t ∧ (∀ (x : Nat) (hx : Hs_t), (fun t9 _ hx => if t9 = 9 then re_I 1 hx else (if t9 = 10 then re_I 2 hx else (if t9 = 11 then re_I 3 hx else (none)))) t x hx = re_I ((fun t : Nat => ((if t = 9 then 1 else if t = 10 then 2 else 3) : Int32)) t) hx) ∧ ((fun t : Nat => ((if t = 9 then 1 else if t = 10 then 2 else 3) : Int32)) t) ≠ 0 := by
  obtain ⟨ls, s, lv, lvm, cl, bag, lt⟩ := w
  simp only [op_number]
  split
  · split
    · exact Or.inr ⟨9, rfl, fun _ _ => rfl, by decide⟩
    · split
      · have hK := fl_2 x.toNatClampNeg x.toNatClampNeg ls s lv []
        generalize fl x.toNatClampNeg x.toNatClampNeg ls s lv [] = z at *
        match z, hK with
        | (0, ls1, s1, lv1, bag1), hK => exact Or.inl ⟨_, rfl⟩
        | (1, ls1, s1, lv1, bag1), hK => exact Or.inr ⟨10, rfl, fun _ _ => rfl, by decide⟩
        | (2, ls1, s1, lv1, bag1), hK => exact Or.inr ⟨11, rfl, fun _ _ => rfl, by decide⟩
        | (c + 3, ls1, s1, lv1, bag1), hK => exact absurd hK (by simp)
      · exact Or.inr ⟨9, rfl, fun _ _ => rfl, by decide⟩
  · exact Or.inr ⟨10, rfl, fun _ _ => rfl, by decide⟩
theorem ho_skip (w : Wd_t) (x : Int32) : (∃ v0, (op_skip w x).1 = .inl (some (.int v0))) ∨ ∃ t, (op_skip w x).1 = .inr t ∧ (∀ (x : Nat) (hx : Hs_t), (fun t9 _ hx => if t9 = 9 then re_I 1 hx else (if t9 = 10 then re_I 2 hx else (none))) t x hx = re_I ((fun t : Nat => ((if t = 9 then 1 else 2) : Int32)) t) hx) ∧ ((fun t : Nat => ((if t = 9 then 1 else 2) : Int32)) t) ≠ 0 := by
  obtain ⟨ls, s, lv, lvm, cl, bag, lt⟩ := w
  simp only [op_skip]
  split
  · split
    · exact Or.inr ⟨9, rfl, fun _ _ => rfl, by decide⟩
    · split
      · generalize sk x.toNatClampNeg x.toNatClampNeg 0 ls s lv = z
        match z with
        | (some c, ls1, s1, lv1) => exact Or.inl ⟨_, rfl⟩
        | (none, ls1, s1, lv1) => exact Or.inr ⟨10, rfl, fun _ _ => rfl, by decide⟩
      · exact Or.inr ⟨9, rfl, fun _ _ => rfl, by decide⟩
  · exact Or.inr ⟨10, rfl, fun _ _ => rfl, by decide⟩
theorem ho_text (w : Wd_t) : (∃ v0, (op_text w).1 = .inl (some (.int v0))) ∨ ∃ t, (op_text w).1 = .inr t ∧ (∀ (x : Nat) (hx : Hs_t), (fun t9 _ hx => if t9 = 10 then re_I 1 hx else (if t9 = 11 then re_I 2 hx else (if t9 = 9 then re_I 3 hx else (none)))) t x hx = re_I ((fun t : Nat => ((if t = 10 then 1 else if t = 11 then 2 else 3) : Int32)) t) hx) ∧ ((fun t : Nat => ((if t = 10 then 1 else if t = 11 then 2 else 3) : Int32)) t) ≠ 0 := by
  obtain ⟨ls, s, lv, lvm, cl, bag, lt⟩ := w
  simp only [op_text]
  split
  · have hK := fl_2 2 2 ls s lv []
    generalize fl 2 2 ls s lv [] = z at *
    match z, hK with
    | (1, ls1, s1, lv1, bag1), hK => exact Or.inr ⟨10, rfl, fun _ _ => rfl, by decide⟩
    | (2, ls1, s1, lv1, bag1), hK => exact Or.inr ⟨11, rfl, fun _ _ => rfl, by decide⟩
    | (c + 3, ls1, s1, lv1, bag1), hK => exact absurd hK (by simp)
    | (0, ls1, s1, lv1, bag1), hK =>
      dsimp only
      split
      · have hK2 := fl_2 (tn bag1) (tn bag1) ls1 s1 lv1 bag1
        generalize fl (tn bag1) (tn bag1) ls1 s1 lv1 bag1 = z2 at *
        match z2, hK2 with
        | (1, ls2, s2, lv2, bag2), hK2 => exact Or.inr ⟨10, rfl, fun _ _ => rfl, by decide⟩
        | (2, ls2, s2, lv2, bag2), hK2 => exact Or.inr ⟨11, rfl, fun _ _ => rfl, by decide⟩
        | (c + 3, ls2, s2, lv2, bag2), hK2 => exact absurd hK2 (by simp)
        | (0, ls2, s2, lv2, bag2), hK2 =>
          dsimp only
          split
          · exact Or.inl ⟨_, rfl⟩
          · exact Or.inr ⟨9, rfl, fun _ _ => rfl, by decide⟩
      · exact Or.inr ⟨9, rfl, fun _ _ => rfl, by decide⟩
  · exact Or.inr ⟨10, rfl, fun _ _ => rfl, by decide⟩
theorem ho_line (w : Wd_t) : (∃ v0, (op_line w).1 = .inl (some (.int v0))) ∨ ∃ t, (op_line w).1 = .inr t ∧ (∀ (x : Nat) (hx : Hs_t), (fun t9 _ hx => if t9 = 10 then re_I 1 hx else (none)) t x hx = re_I ((fun t : Nat => ((1) : Int32)) t) hx) ∧ ((fun t : Nat => ((1) : Int32)) t) ≠ 0 := by
  obtain ⟨ls, s, lv, lvm, cl, bag, lt⟩ := w
  simp only [op_line]
  split
  · generalize li 161 ls s lv [] = z
    match z with
    | (some c, ls1, s1, lv1, bag1) => exact Or.inl ⟨_, rfl⟩
    | (none, ls1, s1, lv1, bag1) => exact Or.inr ⟨10, rfl, fun _ _ => rfl, by decide⟩
  · exact Or.inr ⟨10, rfl, fun _ _ => rfl, by decide⟩
theorem ho_mark (w : Wd_t) (x : Int32) : ((op_mark w x).1 = .inl none) ∨ ∃ t, (op_mark w x).1 = .inr t ∧ (∀ (x : Nat) (hx : Hs_t), (fun t9 _ hx => if t9 = 10 then re_I 1 hx else (if t9 = 9 then re_I 2 hx else (if t9 = 12 then re_I 3 hx else (none)))) t x hx = re_I ((fun t : Nat => ((if t = 10 then 1 else if t = 9 then 2 else 3) : Int32)) t) hx) := by
  obtain ⟨ls, s, lv, lvm, cl, bag, lt⟩ := w
  simp only [op_mark]
  split
  · split
    · exact Or.inr ⟨9, rfl, fun _ _ => rfl⟩
    · split
      · split
        · exact Or.inl rfl
        · exact Or.inr ⟨12, rfl, fun _ _ => rfl⟩
      · exact Or.inr ⟨9, rfl, fun _ _ => rfl⟩
  · exact Or.inr ⟨10, rfl, fun _ _ => rfl⟩
theorem ho_reset (w : Wd_t) : ((op_reset w).1 = .inl none) ∨ ∃ t, (op_reset w).1 = .inr t ∧ (∀ (x : Nat) (hx : Hs_t), (fun t9 _ hx => if t9 = 10 then re_I 1 hx else (if t9 = 12 then re_I 2 hx else (none))) t x hx = re_I ((fun t : Nat => ((if t = 10 then 1 else 2) : Int32)) t) hx) := by
  obtain ⟨ls, s, lv, lvm, cl, bag, lt⟩ := w
  simp only [op_reset]
  split
  · split
    · split
      · exact Or.inl rfl
      · exact Or.inr ⟨10, rfl, fun _ _ => rfl⟩
    · exact Or.inr ⟨12, rfl, fun _ _ => rfl⟩
  · exact Or.inr ⟨10, rfl, fun _ _ => rfl⟩
theorem ho_unread (w : Wd_t) (x : Int32) : ((op_unread w x).1 = .inl none) ∨ ∃ t, (op_unread w x).1 = .inr t ∧ (∀ (x : Nat) (hx : Hs_t), (fun t9 _ hx => if t9 = 10 then re_I 1 hx else (if t9 = 9 then re_I 2 hx else (if t9 = 12 then re_I 3 hx else (none)))) t x hx = re_I ((fun t : Nat => ((if t = 10 then 1 else if t = 9 then 2 else 3) : Int32)) t) hx) := by
  obtain ⟨ls, s, lv, lvm, cl, bag, lt⟩ := w
  simp only [op_unread]
  split
  · split
    · exact Or.inr ⟨9, rfl, fun _ _ => rfl⟩
    · split
      · match ls with
        | [] => exact Or.inr ⟨12, rfl, fun _ _ => rfl⟩
        | .inl q :: ls => exact Or.inr ⟨12, rfl, fun _ _ => rfl⟩
        | .inr (.inr q) :: ls => exact Or.inr ⟨12, rfl, fun _ _ => rfl⟩
        | .inr (.inl (rm, st)) :: ls =>
          dsimp only
          split
          · exact Or.inl rfl
          · exact Or.inr ⟨10, rfl, fun _ _ => rfl⟩
      · exact Or.inr ⟨9, rfl, fun _ _ => rfl⟩
  · exact Or.inr ⟨10, rfl, fun _ _ => rfl⟩
/-! The law's loop. -/
theorem law_loop (b scL : Nat) (xs : Nat → Int32) (hL : scL ≤ 1536) (n : Nat) : ∀ (i : Nat) (h : Hs_t), LI b h → i ≤ scL → scL + 3 ≤ i + 3 * n → ∃ r, f_L_law_b23 scL xs n b (b + 11) (b + 30) (ni i) h = some r := by
  induction n with
  | zero => intro i h _ h1 h2; omega
  | succ n ih =>
    intro i h hLI h1 h2
    rw [f_L_law_b23]
    by_cases hend : Int32.ofNat scL - 3 < ni i
    · rw [if_pos hend]; exact ⟨_, rfl⟩
    · rw [if_neg hend]
      have hi : i + 3 ≤ scL := by
        by_cases h3 : 3 ≤ scL
        · have e : Int32.ofNat scL - 3 = ni (scL - 3) := ni_sub (a := scL) (b := 3) h3
          rw [e, ni_lt (by omega) (by omega)] at hend
          omega
        · exfalso
          apply hend
          match scL, i, h3, h1 with
          | 0, 0, _, _ => decide
          | 1, 0, _, _ => decide
          | 1, 1, _, _ => decide
          | 2, 0, _, _ => decide
          | 2, 1, _, _ => decide
          | 2, 2, _, _ => decide
          | k + 3, _, h3, _ => omega
          | 0, j + 1, _, h1 => omega
          | 1, j + 2, _, h1 => omega
          | 2, j + 3, _, h1 => omega
      have s0 : sc_A scL xs (ni i) = some (xs i) := by simp only [sc_A, ni_in_t (show i < 2147483648 by omega) (show i < scL by omega), if_true, ni_nat (show i < 2147483648 by omega)]
      have s1 : sc_A scL xs (ni i + 1) = some (xs (i + 1)) := by rw [ni_p1]; simp only [sc_A, ni_in_t (show i + 1 < 2147483648 by omega) (show i + 1 < scL by omega), if_true, ni_nat (show i + 1 < 2147483648 by omega)]
      have s2 : sc_A scL xs (ni i + 2) = some (xs (i + 2)) := by rw [show ni i + 2 = ni (i + 2) from ni_add i 2]; simp only [sc_A, ni_in_t (show i + 2 < 2147483648 by omega) (show i + 2 < scL by omega), if_true, ni_nat (show i + 2 < 2147483648 by omega)]
      have go : ∀ h3, LI b h3 → ∃ r, f_L_law_b23 scL xs n b (b + 11) (b + 30) (ni i + 3) h3 = some r := by
        intro h3 l3
        rw [show ni i + 3 = ni (i + 3) from ni_add i 3]
        exact ih (i + 3) h3 l3 hi (by omega)
      have fin : ∀ F : Rs_t, (∃ h3, LI b h3 ∧ F = f_L_law_b23 scL xs n b (b + 11) (b + 30) (ni i + 3) h3) → ∃ r, F = some r := by
        rintro F ⟨h3, l3, e3⟩
        obtain ⟨r, hr⟩ := go h3 l3
        exact ⟨r, e3.trans hr⟩
      have hLI' := hLI
      obtain ⟨as, g, w, fo, hT, hR, hv, hM, hO⟩ := hLI
      have ck : ck_T [0] h b = some 0 := ck_0 hT
      simp only [s0, s1, s2, Option.bind_some]
      generalize xs (i + 1) = p at *
      generalize xs (i + 2) = r at *
      generalize (xs i &&& 31) = op at *
      by_cases c0 : op = 0
      · rw [if_pos c0]
        simp only [f_L_feed, ck, Option.bind_some]
        exact fin _ (J_int (KX := (fun t9 _ hx => if t9 = 9 then re_I 1 hx else (if t9 = 10 then re_I 2 hx else (none)))) (FMf := fun hh => f_M_feed (b + 11) p r hh) (T_feed hT hv p r) (fun hh => M_feed hR hv p r) (ho_feed w p r) hM hO (w_feed hv p r) (fun hh => f_L_law_b23 scL xs n b (b + 11) (b + 30) (ni i + 3) hh))
      rw [if_neg c0]
      by_cases c1 : op = 1
      · rw [if_pos c1]
        simp only [ck, Option.bind_some]
        exact fin _ (J_vv (FMf := fun hh => f_M_portion (b + 11) hh) (T_portion hT hv) (fun hh => M_portion hR hv) hM hO (w_portion hv) (fun hh => f_L_law_b23 scL xs n b (b + 11) (b + 30) (ni i + 3) hh))
      rw [if_neg c1]
      by_cases c2 : op = 2
      · rw [if_pos c2]
        simp only [ck, Option.bind_some]
        exact fin _ (J_eq (FMf := fun hh => f_M_breakAt (b + 11) p hh) (T_break hT p) (fun hh => M_break hR p) hM hO (w_break hv p) (fun hh => f_L_law_b23 scL xs n b (b + 11) (b + 30) (ni i + 3) hh))
      rw [if_neg c2]
      by_cases c3 : op = 3
      · rw [if_pos c3]
        simp only [f_L_push, ck, Option.bind_some]
        exact fin _ (J_int (KX := (fun t9 _ hx => if t9 = 9 then re_I 1 hx else (if t9 = 10 then re_I 2 hx else (none)))) (FMf := fun hh => f_M_push (b + 11) p r hh) (T_push hT hv p r) (fun hh => M_push hR hv p r) (ho_push w p r) hM hO (w_push hv p r) (fun hh => f_L_law_b23 scL xs n b (b + 11) (b + 30) (ni i + 3) hh))
      rw [if_neg c3]
      by_cases c4 : op = 4
      · rw [if_pos c4]
        simp only [f_L_read, ck, Option.bind_some]
        exact fin _ (J_int (KX := (fun t9 _ hx => if t9 = 10 then re_I 1 hx else (none))) (FMf := fun hh => f_M_read (b + 11) hh) (T_read hT hv) (fun hh => M_read hR hv) (ho_read w) hM hO (w_read hv) (fun hh => f_L_law_b23 scL xs n b (b + 11) (b + 30) (ni i + 3) hh))
      rw [if_neg c4]
      by_cases c5 : op = 5
      · rw [if_pos c5]
        simp only [f_L_some, ck, Option.bind_some]
        exact fin _ (J_int (KX := (fun t9 _ hx => if t9 = 9 then re_I 1 hx else (if t9 = 10 then re_I 2 hx else (none)))) (FMf := fun hh => f_M_some (b + 11) p hh) (T_some hT hv p) (fun hh => M_some hR hv p) (ho_some w p) hM hO (w_some hv p) (fun hh => f_L_law_b23 scL xs n b (b + 11) (b + 30) (ni i + 3) hh))
      rw [if_neg c5]
      by_cases c6 : op = 6
      · rw [if_pos c6]
        simp only [f_L_full, ck, Option.bind_some]
        exact fin _ (J_void (KX := (fun t9 _ hx => if t9 = 9 then re_I 1 hx else (if t9 = 10 then re_I 2 hx else (if t9 = 11 then re_I 3 hx else (none))))) (FMf := fun hh => f_M_full (b + 11) p hh) (T_full hT hv p) (fun hh => M_full hR hv p) (ho_full w p) hM hO (w_full hv p) (fun hh => f_L_law_b23 scL xs n b (b + 11) (b + 30) (ni i + 3) hh))
      rw [if_neg c6]
      by_cases c7 : op = 7
      · rw [if_pos c7]
        simp only [f_L_skip, ck, Option.bind_some]
        exact fin _ (J_int (KX := (fun t9 _ hx => if t9 = 9 then re_I 1 hx else (if t9 = 10 then re_I 2 hx else (none)))) (FMf := fun hh => f_M_skip (b + 11) p hh) (T_skip hT hv p) (fun hh => M_skip hR hv p) (ho_skip w p) hM hO (w_skip hv p) (fun hh => f_L_law_b23 scL xs n b (b + 11) (b + 30) (ni i + 3) hh))
      rw [if_neg c7]
      by_cases c8 : op = 8
      · rw [if_pos c8]
        simp only [f_L_number, ck, Option.bind_some]
        exact fin _ (J_long (KX := (fun t9 _ hx => if t9 = 9 then re_I 1 hx else (if t9 = 10 then re_I 2 hx else (if t9 = 11 then re_I 3 hx else (none))))) (FMf := fun hh => f_M_number (b + 11) p hh) (T_number hT hv p) (fun hh => M_number hR hv p) (ho_number w p) hM hO (w_number hv p) (fun hh => f_L_law_b23 scL xs n b (b + 11) (b + 30) (ni i + 3) hh))
      rw [if_neg c8]
      by_cases c9 : op = 9
      · rw [if_pos c9]
        simp only [f_L_text, ck, Option.bind_some]
        exact fin _ (J_int (KX := (fun t9 _ hx => if t9 = 10 then re_I 1 hx else (if t9 = 11 then re_I 2 hx else (if t9 = 9 then re_I 3 hx else (none))))) (FMf := fun hh => f_M_text (b + 11) hh) (T_text hT hv) (fun hh => M_text hR hv) (ho_text w) hM hO (w_text hv) (fun hh => f_L_law_b23 scL xs n b (b + 11) (b + 30) (ni i + 3) hh))
      rw [if_neg c9]
      by_cases c10 : op = 10
      · rw [if_pos c10]
        simp only [f_L_line, ck, Option.bind_some]
        exact fin _ (J_int (KX := (fun t9 _ hx => if t9 = 10 then re_I 1 hx else (none))) (FMf := fun hh => f_M_line (b + 11) hh) (T_line hT hv) (fun hh => M_line hR hv) (ho_line w) hM hO (w_line hv) (fun hh => f_L_law_b23 scL xs n b (b + 11) (b + 30) (ni i + 3) hh))
      rw [if_neg c10]
      by_cases c11 : op = 11
      · rw [if_pos c11]
        simp only [f_L_mark, ck, Option.bind_some]
        exact fin _ (J_void (KX := (fun t9 _ hx => if t9 = 10 then re_I 1 hx else (if t9 = 9 then re_I 2 hx else (if t9 = 12 then re_I 3 hx else (none))))) (FMf := fun hh => f_M_mark (b + 11) p hh) (T_mark hT hv p) (fun hh => M_mark hR hv p) (ho_mark w p) hM hO (w_mark hv p) (fun hh => f_L_law_b23 scL xs n b (b + 11) (b + 30) (ni i + 3) hh))
      rw [if_neg c11]
      by_cases c12 : op = 12
      · rw [if_pos c12]
        simp only [f_L_reset, ck, Option.bind_some]
        exact fin _ (J_void (KX := (fun t9 _ hx => if t9 = 10 then re_I 1 hx else (if t9 = 12 then re_I 2 hx else (none)))) (FMf := fun hh => f_M_reset (b + 11) hh) (T_reset hT hv) (fun hh => M_reset hR hv) (ho_reset w) hM hO (w_reset hv) (fun hh => f_L_law_b23 scL xs n b (b + 11) (b + 30) (ni i + 3) hh))
      rw [if_neg c12]
      by_cases c13 : op = 13
      · rw [if_pos c13]
        simp only [f_L_unread, ck, Option.bind_some]
        exact fin _ (J_void (KX := (fun t9 _ hx => if t9 = 10 then re_I 1 hx else (if t9 = 9 then re_I 2 hx else (if t9 = 12 then re_I 3 hx else (none))))) (FMf := fun hh => f_M_unread (b + 11) p hh) (T_unread hT hv p) (fun hh => M_unread hR hv p) (ho_unread w p) hM hO (w_unread hv p) (fun hh => f_L_law_b23 scL xs n b (b + 11) (b + 30) (ni i + 3) hh))
      rw [if_neg c13]
      by_cases c14 : op = 14
      · rw [if_pos c14]
        simp only [ck, Option.bind_some]
        exact fin _ (J_eq (FMf := fun hh => f_M_available (b + 11) hh) (T_available hT hv) (fun hh => M_available hR hv) hM hO hv (fun hh => f_L_law_b23 scL xs n b (b + 11) (b + 30) (ni i + 3) hh))
      rw [if_neg c14]
      by_cases c15 : op = 15
      · rw [if_pos c15]
        simp only [ck, Option.bind_some]
        exact fin _ (J_vv (FMf := fun hh => f_M_close (b + 11) hh) (T_close hT) (fun hh => M_close hR) hM hO (w_close hv) (fun hh => f_L_law_b23 scL xs n b (b + 11) (b + 30) (ni i + 3) hh))
      rw [if_neg c15]
      by_cases c16 : op = 16
      · rw [if_pos c16]
        simp only [ck, Option.bind_some]
        exact fin _ (J_eq (FMf := fun hh => f_M_about (b + 11) p hh) (T_about hT hv p) (fun hh => M_about hR hv p) hM hO hv (fun hh => f_L_law_b23 scL xs n b (b + 11) (b + 30) (ni i + 3) hh))
      rw [if_neg c16]
      by_cases c17 : op = 17
      · rw [if_pos c17]
        simp only [ck, Option.bind_some]
        by_cases hp : p = 0
        · simp only [hp, if_true]
          exact fin _ (J_eq (FMf := fun hh => f_M_size (b + 11) 0 hh) (T_size hT 0) (fun hh => M_size hR 0) hM hO hv (fun hh => f_L_law_b23 scL xs n b (b + 11) (b + 30) (ni i + 3) hh))
        · simp only [hp, if_false]
          exact fin _ (J_eq (FMf := fun hh => f_M_size (b + 11) 1 hh) (T_size hT 1) (fun hh => M_size hR 1) hM hO hv (fun hh => f_L_law_b23 scL xs n b (b + 11) (b + 30) (ni i + 3) hh))
      rw [if_neg c17]
      by_cases c18 : op = 18
      · rw [if_pos c18]
        simp only [ck, Option.bind_some]
        by_cases hp : r = 0
        · simp only [hp, if_true]
          exact fin _ (J_eq (FMf := fun hh => f_M_at (b + 11) p 0 hh) (T_at hT hv p 0) (fun hh => M_at hR hv p 0) hM hO hv (fun hh => f_L_law_b23 scL xs n b (b + 11) (b + 30) (ni i + 3) hh))
        · simp only [hp, if_false]
          exact fin _ (J_eq (FMf := fun hh => f_M_at (b + 11) p 1 hh) (T_at hT hv p 1) (fun hh => M_at hR hv p 1) hM hO hv (fun hh => f_L_law_b23 scL xs n b (b + 11) (b + 30) (ni i + 3) hh))
      rw [if_neg c18]
      exact go h hLI'
