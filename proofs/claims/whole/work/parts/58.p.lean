/-! text. -/
def fu_B (bag : List Int32) (k : Nat) : Bool := decide (k < bag.length) && decide ((bag.getD k 0 &&& 192) = 128)
def lz (bag : List Int32) (k : Nat) : Nat := if 128 ≤ bag.getD k 0 then (if (bag.getD k 0 &&& 224) = 192 then (if fu_B bag (k + 1) then 2 else 0) else if (bag.getD k 0 &&& 240) = 224 then (if fu_B bag (k + 1) && fu_B bag (k + 2) then 3 else 0) else 0) else 1
def la (bag : List Int32) (k w : Nat) : Int32 := if w = 1 then bag.getD k 0 else if w = 2 then ((bag.getD k 0 &&& 31) <<< ((6 : Int32) &&& 31)) ||| (bag.getD (k + 1) 0 &&& 63) else (((bag.getD k 0 &&& 15) <<< ((12 : Int32) &&& 31)) ||| ((bag.getD (k + 1) 0 &&& 63) <<< ((6 : Int32) &&& 31))) ||| (bag.getD (k + 2) 0 &&& 63)
theorem lz_le (bag : List Int32) (k : Nat) (hk : k < bag.length) : lz bag k ≤ 3 ∧ k + lz bag k ≤ bag.length := by
  unfold lz
  split
  · split
    · split
      · rename_i h; simp only [fu_B, Bool.and_eq_true, decide_eq_true_eq] at h; omega
      · omega
    · split
      · split
        · rename_i h; simp only [fu_B, Bool.and_eq_true, decide_eq_true_eq] at h; omega
        · omega
      · omega
  · omega
section TX
variable {b : Nat} {h : Hs_t} {bag : List Int32} {f8 : Nat → Int32}
theorem C_lw (a4 : h.2 (b + 7) = some (ce_O 1 [.ref (b + 8), .int (ni bag.length)])) (a5 : h.2 (b + 8) = some (ce_I 160 f8)) (a5' : sl f8 0 bag.length = bag) (hb : bag.length ≤ 160) (k : Nat) (hk : k < bag.length) : f_T_letterWidth (b + 7) (ni k) h = re_I (ni (lz bag k)) h := by
  have g0 := C_get_in a4 a5 a5' hb (by omega) k hk
  have ck : ck_T [1] h (b + 7) = some 1 := by simp only [ck_T, tg_O, a4]; rfl
  rw [f_T_letterWidth]
  simp only [ck, Option.bind_some, g0, bd_I, re_I, f_T_widthByFirstByte]
  have e1 : (2 : Int32) = ni 2 := rfl
  have e2 : (3 : Int32) = ni 3 := rfl
  have fd : fd_I [1] 1 h (b + 7) = some (ni bag.length) := by simp only [fd_I, fd_V, a4]; rfl
  unfold lz
  by_cases h1 : 128 ≤ bag.getD k 0
  · simp only [h1, if_true]
    by_cases h2 : (bag.getD k 0 &&& 224) = 192
    · simp only [h2, if_true, e1, ni_add, fd, Option.bind_some]
      by_cases h3 : k + 2 ≤ bag.length
      · rw [if_pos (niL (by omega) (by omega) h3)]
        have g1 := C_get_in a4 a5 a5' hb (by omega) (k + 1) (by omega)
        rw [show fu_N = 1998 + 1 + 1 from rfl, f_T_letterWidth_b23, if_neg (show ¬ ni 2 ≤ 1 by decide)]
        simp only [ck, Option.bind_some, ni_p1, g1, bd_I, re_I]
        by_cases h4 : (bag.getD (k + 1) 0 &&& 192) = 128
        · simp only [h4, if_true]
          rw [f_T_letterWidth_b23, if_pos (show ni 2 ≤ 1 + 1 by decide), if_pos (by simp only [fu_B, h4, decide_true, Bool.and_true, decide_eq_true_eq]; omega)]
          rfl
        · simp only [h4, if_false]
          rw [if_neg (by simp only [fu_B, h4, decide_false, Bool.and_false]; decide)]
          rfl
      · rw [if_neg (niNL (by omega) (by omega) (by omega)), if_neg (by simp only [fu_B, Bool.and_eq_true, decide_eq_true_eq]; omega)]
        rfl
    · simp only [h2, if_false, f_T_widthByFirstByte_b38]
      by_cases h5 : (bag.getD k 0 &&& 240) = 224
      · simp only [h5, if_true, e2, re_I, ni_add, fd, Option.bind_some]
        by_cases h3 : k + 3 ≤ bag.length
        · rw [if_pos (niL (by omega) (by omega) h3)]
          have g1 := C_get_in a4 a5 a5' hb (by omega) (k + 1) (by omega)
          have g2 := C_get_in a4 a5 a5' hb (by omega) (k + 2) (by omega)
          rw [show fu_N = 1997 + 1 + 1 + 1 from rfl, f_T_letterWidth_b23, if_neg (show ¬ ni 3 ≤ 1 by decide)]
          simp only [ck, Option.bind_some, ni_p1, g1, bd_I, re_I]
          by_cases h4 : (bag.getD (k + 1) 0 &&& 192) = 128
          · simp only [h4, if_true]
            rw [f_T_letterWidth_b23, if_neg (show ¬ ni 3 ≤ 1 + 1 by decide)]
            simp only [ck, Option.bind_some, show ni k + (1 + 1) = ni (k + 2) from ni_add k 2, g2, bd_I, re_I]
            by_cases h6 : (bag.getD (k + 2) 0 &&& 192) = 128
            · simp only [h6, if_true]
              rw [f_T_letterWidth_b23, if_pos (show ni 3 ≤ 1 + 1 + 1 by decide), if_pos (by simp only [fu_B, h4, h6, decide_true, Bool.and_true, Bool.and_eq_true, decide_eq_true_eq]; omega)]
              rfl
            · simp only [h6, if_false]
              rw [if_neg (by simp only [fu_B, h6, decide_false, Bool.and_false]; decide)]
              rfl
          · simp only [h4, if_false]
            rw [if_neg (by simp only [fu_B, h4, decide_false, Bool.and_false, Bool.false_and]; decide)]
            rfl
        · rw [if_neg (niNL (by omega) (by omega) (by omega)), if_neg (by simp only [fu_B, Bool.and_eq_true, decide_eq_true_eq]; omega)]
          rfl
      · simp only [h5, if_false, re_I, fd, Option.bind_some]
        rw [show ni k + 0 = ni k from ni_add k 0, if_pos (niL (by omega) (by omega) (by omega)), show fu_N = 1999 + 1 from rfl, f_T_letterWidth_b23, if_pos (by decide)]
        rfl
  · simp only [h1, if_false, fd, Option.bind_some]
    rw [ni_p1, if_pos (niL (by omega) (by omega) (by omega)), show fu_N = 1999 + 1 from rfl, f_T_letterWidth_b23, if_pos (by decide)]
    rfl
theorem C_lo (a4 : h.2 (b + 7) = some (ce_O 1 [.ref (b + 8), .int (ni bag.length)])) (a5 : h.2 (b + 8) = some (ce_I 160 f8)) (a5' : sl f8 0 bag.length = bag) (hb : bag.length ≤ 160) (k w : Nat) (hw1 : 1 ≤ w) (hw3 : w ≤ 3) (hk : k + w ≤ bag.length) : f_T_letterOf (b + 7) (ni k) (ni w) h = re_I (la bag k w) h := by
  have g0 := C_get_in a4 a5 a5' hb (by omega) k (by omega)
  have ck : ck_T [1] h (b + 7) = some 1 := by simp only [ck_T, tg_O, a4]; rfl
  rw [f_T_letterOf]
  simp only [ck, Option.bind_some, g0, bd_I, re_I, f_T_letterOf_b31]
  match w, hw1, hw3, hk with
  | 1, _, _, hk =>
    rw [if_pos (show ni 1 = 1 from rfl), show fu_N = 1999 + 1 from rfl, f_T_letterOf_b36, if_pos (by decide)]
    rfl
  | 2, _, _, hk =>
    have g1 := C_get_in a4 a5 a5' hb (by omega) (k + 1) (by omega)
    rw [if_neg (by decide), if_pos (show ni 2 = 2 from rfl), show fu_N = 1998 + 1 + 1 from rfl, f_T_letterOf_b36, if_neg (by decide)]
    simp only [ck, Option.bind_some, ni_p1, g1, bd_I, re_I]
    rw [f_T_letterOf_b36, if_pos (by decide)]
    rfl
  | 3, _, _, hk =>
    have g1 := C_get_in a4 a5 a5' hb (by omega) (k + 1) (by omega)
    have g2 := C_get_in a4 a5 a5' hb (by omega) (k + 2) (by omega)
    rw [if_neg (by decide), if_neg (by decide), show fu_N = 1997 + 1 + 1 + 1 from rfl, f_T_letterOf_b36, if_neg (by decide)]
    simp only [ck, Option.bind_some, ni_p1, g1, bd_I, re_I]
    rw [f_T_letterOf_b36, if_neg (by decide)]
    simp only [ck, Option.bind_some, show ni k + (1 + 1) = ni (k + 2) from ni_add k 2, g2, bd_I, re_I]
    rw [f_T_letterOf_b36, if_pos (by decide), sh_6]
    rfl
end TX
section TM
variable {m : Nat} {h : Hs_t} {g : Mg_t} {bag : List Int32}
theorem M_fu (a7 : g.1 25 = ni bag.length) (a8 : sl (g.2 24) 0 bag.length = bag) (hb : bag.length ≤ 160) (k : Nat) (hk : k < 1000) : f_M_further m (ni k) (MH m g h) = re_Z (if fu_B bag k then 1 else 0) (MH m g h) := by
  rw [f_M_further]
  simp only [mI_0, mP_0, mI_4, mP_4, mI_5, mP_5, mI_6, mP_6, mI_20, mP_20, mI_21, mP_21, mI_22, mP_22, mI_23, mP_23, mI_25, mP_25, mI_27, mP_27, mR_1, mG_1, mS_1, mR_2, mG_2, mS_2, mR_3, mG_3, mS_3, mR_7, mG_7, mS_7, mR_8, mG_8, mS_8, mR_9, mG_9, mS_9, mR_10, mG_10, mS_10, mR_11, mG_11, mS_11, mR_12, mG_12, mS_12, mR_13, mG_13, mS_13, mR_14, mG_14, mS_14, mR_15, mG_15, mS_15, mR_16, mG_16, mS_16, mR_17, mG_17, mS_17, mR_18, mG_18, mS_18, mR_19, mG_19, mS_19, mR_24, mG_24, mS_24, mR_26, mG_26, mS_26, mK_8, gS_1, gS_2, gA_1, gA_2, Option.bind_some, Option.bind_none, a7, f_M_further_b28, f_M_further_b29]
  by_cases h1 : bag.length ≤ k
  · rw [if_pos (niL (by omega) (by omega) h1), if_neg (by simp only [fu_B, Bool.and_eq_true, decide_eq_true_eq]; omega)]
  · have h4 : in_R (ni k) 600 = true := ni_in_t (by omega) (by omega)
    have h5 : (ni k).toNatClampNeg = k := ni_nat (by omega)
    rw [if_neg (niNL (by omega) (by omega) (by omega))]
    simp only [h4, h5, if_true, Option.bind_some, bg_at a8 (show k < bag.length by omega)]
    by_cases h2 : (bag.getD k 0 &&& 192) = 128
    · rw [if_pos h2, if_pos (by simp only [fu_B, h2, decide_true, Bool.and_true, decide_eq_true_eq]; omega)]
    · rw [if_neg h2, if_neg (by simp only [fu_B, h2, decide_false, Bool.and_false]; decide)]
theorem M_lz (a7 : g.1 25 = ni bag.length) (a8 : sl (g.2 24) 0 bag.length = bag) (hb : bag.length ≤ 160) (k : Nat) (hk : k < bag.length) : f_M_letterSize m (ni k) (MH m g h) = re_I (ni (lz bag k)) (MH m g h) := by
  have h4 : in_R (ni k) 600 = true := ni_in_t (by omega) (by omega)
  have h5 : (ni k).toNatClampNeg = k := ni_nat (by omega)
  have f1 := M_fu (m := m) (h := h) a7 a8 hb (k + 1) (by omega)
  have f2 := M_fu (m := m) (h := h) a7 a8 hb (k + 2) (by omega)
  rw [f_M_letterSize]
  simp only [mI_0, mP_0, mI_4, mP_4, mI_5, mP_5, mI_6, mP_6, mI_20, mP_20, mI_21, mP_21, mI_22, mP_22, mI_23, mP_23, mI_25, mP_25, mI_27, mP_27, mR_1, mG_1, mS_1, mR_2, mG_2, mS_2, mR_3, mG_3, mS_3, mR_7, mG_7, mS_7, mR_8, mG_8, mS_8, mR_9, mG_9, mS_9, mR_10, mG_10, mS_10, mR_11, mG_11, mS_11, mR_12, mG_12, mS_12, mR_13, mG_13, mS_13, mR_14, mG_14, mS_14, mR_15, mG_15, mS_15, mR_16, mG_16, mS_16, mR_17, mG_17, mS_17, mR_18, mG_18, mS_18, mR_19, mG_19, mS_19, mR_24, mG_24, mS_24, mR_26, mG_26, mS_26, mK_8, gS_1, gS_2, gA_1, gA_2, Option.bind_some, Option.bind_none, h4, h5, if_true, bg_at a8 hk, ni_p1, show ni k + 2 = ni (k + 2) from ni_add k 2, f1, f2]
  unfold lz
  by_cases h1 : 128 ≤ bag.getD k 0
  · simp only [h1, if_true]
    by_cases h2 : (bag.getD k 0 &&& 224) = 192
    · simp only [h2, if_true]
      cases fu_B bag (k + 1) <;> rfl
    · simp only [h2, if_false]
      by_cases h3 : (bag.getD k 0 &&& 240) = 224
      · simp only [h3, if_true]
        cases fu_B bag (k + 1) with
        | false => rfl
        | true =>
          simp only [if_true, re_Z1, bd_I, show ((1 : Int32) = 0) = False by decide, if_false, mI_0, mP_0, mI_4, mP_4, mI_5, mP_5, mI_6, mP_6, mI_20, mP_20, mI_21, mP_21, mI_22, mP_22, mI_23, mP_23, mI_25, mP_25, mI_27, mP_27, mR_1, mG_1, mS_1, mR_2, mG_2, mS_2, mR_3, mG_3, mS_3, mR_7, mG_7, mS_7, mR_8, mG_8, mS_8, mR_9, mG_9, mS_9, mR_10, mG_10, mS_10, mR_11, mG_11, mS_11, mR_12, mG_12, mS_12, mR_13, mG_13, mS_13, mR_14, mG_14, mS_14, mR_15, mG_15, mS_15, mR_16, mG_16, mS_16, mR_17, mG_17, mS_17, mR_18, mG_18, mS_18, mR_19, mG_19, mS_19, mR_24, mG_24, mS_24, mR_26, mG_26, mS_26, mK_8, gS_1, gS_2, gA_1, gA_2, Option.bind_some, Option.bind_none, f2, Bool.true_and]
          cases fu_B bag (k + 2) <;> rfl
      · simp only [h3, if_false]
        rfl
  · simp only [h1, if_false]
    rfl
theorem M_la (a8 : sl (g.2 24) 0 bag.length = bag) (hb : bag.length ≤ 160) (k w : Nat) (hw1 : 1 ≤ w) (hw3 : w ≤ 3) (hk : k + w ≤ bag.length) : f_M_letterAt m (ni k) (ni w) (MH m g h) = re_I (la bag k w) (MH m g h) := by
  have h4 : in_R (ni k) 600 = true := ni_in_t (by omega) (by omega)
  have h5 : (ni k).toNatClampNeg = k := ni_nat (by omega)
  have h6 : in_R (ni (k + 1)) 600 = true := ni_in_t (by omega) (by omega)
  have h7 : (ni (k + 1)).toNatClampNeg = k + 1 := ni_nat (by omega)
  have h8 : in_R (ni (k + 2)) 600 = true := ni_in_t (by omega) (by omega)
  have h9 : (ni (k + 2)).toNatClampNeg = k + 2 := ni_nat (by omega)
  rw [f_M_letterAt]
  simp only [mI_0, mP_0, mI_4, mP_4, mI_5, mP_5, mI_6, mP_6, mI_20, mP_20, mI_21, mP_21, mI_22, mP_22, mI_23, mP_23, mI_25, mP_25, mI_27, mP_27, mR_1, mG_1, mS_1, mR_2, mG_2, mS_2, mR_3, mG_3, mS_3, mR_7, mG_7, mS_7, mR_8, mG_8, mS_8, mR_9, mG_9, mS_9, mR_10, mG_10, mS_10, mR_11, mG_11, mS_11, mR_12, mG_12, mS_12, mR_13, mG_13, mS_13, mR_14, mG_14, mS_14, mR_15, mG_15, mS_15, mR_16, mG_16, mS_16, mR_17, mG_17, mS_17, mR_18, mG_18, mS_18, mR_19, mG_19, mS_19, mR_24, mG_24, mS_24, mR_26, mG_26, mS_26, mK_8, gS_1, gS_2, gA_1, gA_2, Option.bind_some, Option.bind_none, h4, h5, h6, h7, h8, h9, if_true, bg_at a8 (show k < bag.length by omega), ni_p1, show ni k + 2 = ni (k + 2) from ni_add k 2, f_M_letterAt_b77]
  match w, hw1, hw3, hk with
  | 1, _, _, hk => rfl
  | 2, _, _, hk => rw [if_neg (by decide), if_pos (by decide), bg_at a8 (show k + 1 < bag.length by omega)]; rfl
  | 3, _, _, hk => rw [if_neg (by decide), if_neg (by decide), bg_at a8 (show k + 1 < bag.length by omega), bg_at a8 (show k + 2 < bag.length by omega)]; rfl
end TM
def bI : Bool → Int32
  | true => 1
  | false => 0
/-- is all from k on letters? -/
def hj (bag : List Int32) : Nat → Nat → Bool
  | 0, _ => true
  | d + 1, k => if bag.length ≤ k then true else if lz bag k = 0 then false else hj bag d (k + lz bag k)
def tl (bag : List Int32) : Nat → Nat → List Int32 → List Int32
  | 0, _, lt => lt
  | d + 1, k, lt => if bag.length ≤ k then lt else tl bag d (k + lz bag k) (lt ++ [la bag k (lz bag k)])
theorem tl_len (bag : List Int32) (d : Nat) : ∀ (k : Nat) (lt : List Int32), hj bag d k = true → bag.length ≤ k + d → k ≤ bag.length → (tl bag d k lt).length + k ≤ lt.length + bag.length := by
  induction d with
  | zero => intro k lt _ h1 h2; simp only [tl]; omega
  | succ d ih =>
    intro k lt hh h1 h2
    simp only [tl]
    simp only [hj] at hh
    by_cases h0 : bag.length ≤ k
    · rw [if_pos h0]; omega
    · rw [if_neg h0] at hh ⊢
      by_cases hz : lz bag k = 0
      · rw [if_pos hz] at hh; cases hh
      · rw [if_neg hz] at hh
        have hl := lz_le bag k (by omega)
        have := ih (k + lz bag k) (lt ++ [la bag k (lz bag k)]) hh (by omega) hl.2
        simp only [List.length_append, List.length_cons, List.length_nil] at this
        omega
theorem T_hj {b : Nat} {h : Hs_t} {bag : List Int32} {f8 : Nat → Int32} (a4 : h.2 (b + 7) = some (ce_O 1 [.ref (b + 8), .int (ni bag.length)])) (a5 : h.2 (b + 8) = some (ce_I 160 f8)) (a5' : sl f8 0 bag.length = bag) (hb : bag.length ≤ 160) (d : Nat) : ∀ (k F : Nat), bag.length ≤ k + d → k ≤ bag.length → f_T_holdsJustLetters_b4 (F + d + 1) (b + 7) (ni k) h = re_Z (bI (hj bag d k)) h := by
  have fd : fd_I [1] 1 h (b + 7) = some (ni bag.length) := by simp only [fd_I, fd_V, a4]; rfl
  induction d with
  | zero =>
    intro k F h1 h2
    rw [f_T_holdsJustLetters_b4]
    simp only [fd, Option.bind_some, hj]
    rw [if_pos (niL (by omega) (by omega) (by omega))]
    rfl
  | succ d ih =>
    intro k F h1 h2
    rw [show F + (d + 1) + 1 = (F + d + 1) + 1 by omega, f_T_holdsJustLetters_b4]
    simp only [fd, Option.bind_some, hj]
    by_cases h0 : bag.length ≤ k
    · rw [if_pos (niL (by omega) (by omega) h0), if_pos h0]
      rfl
    · have hl := lz_le bag k (by omega)
      rw [if_neg (niNL (by omega) (by omega) (by omega)), if_neg h0, C_lw a4 a5 a5' hb k (by omega)]
      simp only [bd_I, re_I]
      by_cases hz : lz bag k = 0
      · rw [if_pos hz, hz, if_pos (by decide)]
        rfl
      · rw [if_neg (show ¬ ni (lz bag k) = 0 from niNE (b := 0) (by omega) (by omega) hz), if_neg hz, ni_add, ih _ F (by omega) hl.2]
theorem T_tl (b : Nat) (as : List Nat) (ls : List Ly_t) (s : Sr_t) (lv lvm cl : Int32) (bag : List Int32) (hb : bag.length ≤ 160) (d : Nat) : ∀ (k F w : Nat) (lt : List Int32) (h : Hs_t), RT b as h ls s lv lvm cl bag lt → hj bag d k = true → bag.length ≤ k + d → k ≤ bag.length → 1 ≤ w → w ≤ 3 → lt.length + (bag.length - k) ≤ 118 → ∃ h', f_T_takeLetters_b11 (F + d + 1) b (ni w) (ni k) h = re_V h' ∧ RT b as h' ls s lv lvm cl bag (tl bag d k lt) ∧ FK b h h' := by
  induction d with
  | zero =>
    intro k F w lt h hT hh h1 h2 hw1 hw3 hlt
    have a1 := hT.1
    have a4 := hT.2.2.2.1
    rw [f_T_takeLetters_b11]
    simp only [fd_I, fd_V, fd_A, pt_V, pt_Z, ar_I, ar_Z, ar_R, as_I, as_Z, cp_I, ln_A, ck_T, tg_O, hp_2, List.contains_cons, List.contains_nil, List.getElem?_cons_zero, List.getElem?_cons_succ, List.set_cons_succ, List.set_cons_zero, List.length_cons, List.length_nil, Option.bind_some, Option.bind_none, Nat.reduceLT, Nat.reduceAdd, Nat.reduceBEq, BEq.rfl, beq_self_eq_true, Bool.or_false, Bool.or_true, Bool.true_or, Bool.false_or, decide_true, decide_false, Bool.not_false, Bool.not_true, Nat.zero_lt_succ, Nat.lt_add_left_iff_pos, Nat.succ_ne_self, ne_eq, not_false_eq_true, eq_self, if_true, if_false, ite_true, ite_false, bd_I, bd_V, bd_A, bd_L, re_I, re_V, Bool.true_and, Bool.and_true, reduceIte, reduceCtorEq, ↓reduceIte, Nat.reduceEqDiff, a1, a4, tl]
    rw [if_pos (niL (by omega) (by omega) (by omega))]
    exact ⟨h, rfl, hT, FK.refl _ _⟩
  | succ d ih =>
    intro k F w lt h hT hh h1 h2 hw1 hw3 hlt
    have a1 := hT.1
    have a4 := hT.2.2.2.1
    obtain ⟨f8, a5, a5'⟩ := hT.2.2.2.2.1
    have a6 := hT.2.2.2.2.2.1
    obtain ⟨f10, a7, a7'⟩ := hT.2.2.2.2.2.2.1
    rw [show F + (d + 1) + 1 = (F + d + 1) + 1 by omega, f_T_takeLetters_b11]
    simp only [hj] at hh
    simp only [tl]
    by_cases h0 : bag.length ≤ k
    · simp only [fd_I, fd_V, fd_A, pt_V, pt_Z, ar_I, ar_Z, ar_R, as_I, as_Z, cp_I, ln_A, ck_T, tg_O, hp_2, List.contains_cons, List.contains_nil, List.getElem?_cons_zero, List.getElem?_cons_succ, List.set_cons_succ, List.set_cons_zero, List.length_cons, List.length_nil, Option.bind_some, Option.bind_none, Nat.reduceLT, Nat.reduceAdd, Nat.reduceBEq, BEq.rfl, beq_self_eq_true, Bool.or_false, Bool.or_true, Bool.true_or, Bool.false_or, decide_true, decide_false, Bool.not_false, Bool.not_true, Nat.zero_lt_succ, Nat.lt_add_left_iff_pos, Nat.succ_ne_self, ne_eq, not_false_eq_true, eq_self, if_true, if_false, ite_true, ite_false, bd_I, bd_V, bd_A, bd_L, re_I, re_V, Bool.true_and, Bool.and_true, reduceIte, reduceCtorEq, ↓reduceIte, Nat.reduceEqDiff, a1, a4]
      rw [if_pos (niL (by omega) (by omega) h0), if_pos h0]
      exact ⟨h, rfl, hT, FK.refl _ _⟩
    · rw [if_neg h0] at hh ⊢
      by_cases hz : lz bag k = 0
      · rw [if_pos hz] at hh; cases hh
      · rw [if_neg hz] at hh
        have hl := lz_le bag k (by omega)
        have hw := C_lw a4 a5 a5' hb k (by omega)
        have ho := C_lo a4 a5 a5' hb k (lz bag k) (by omega) hl.1 hl.2
        obtain ⟨h1', f1', p1, p2, p3, p4, p5, p6⟩ := C_add a6 a7 a7' (by omega) (by omega) (la bag k (lz bag k))
        have c1 : ¬ ni bag.length ≤ ni k := niNL (by omega) (by omega) (by omega)
        have c2 : ¬ ni w ≤ 0 := niNL (b := 0) (by omega) (by omega) (by omega)
        simp only [fd_I, fd_V, fd_A, pt_V, pt_Z, ar_I, ar_Z, ar_R, as_I, as_Z, cp_I, ln_A, ck_T, tg_O, hp_2, List.contains_cons, List.contains_nil, List.getElem?_cons_zero, List.getElem?_cons_succ, List.set_cons_succ, List.set_cons_zero, List.length_cons, List.length_nil, Option.bind_some, Option.bind_none, Nat.reduceLT, Nat.reduceAdd, Nat.reduceBEq, BEq.rfl, beq_self_eq_true, Bool.or_false, Bool.or_true, Bool.true_or, Bool.false_or, decide_true, decide_false, Bool.not_false, Bool.not_true, Nat.zero_lt_succ, Nat.lt_add_left_iff_pos, Nat.succ_ne_self, ne_eq, not_false_eq_true, eq_self, if_true, if_false, ite_true, ite_false, bd_I, bd_V, bd_A, bd_L, re_I, re_V, Bool.true_and, Bool.and_true, reduceIte, reduceCtorEq, ↓reduceIte, Nat.reduceEqDiff, a1, a4, a6, hw, ho, p1, c1, c2, ni_add]
        have hT1 : RT b as h1' ls s lv lvm cl bag (lt ++ [la bag k (lz bag k)]) := RT.let hT p2 p3 p4 p5 p6
        obtain ⟨h2', q1, q2, q3⟩ := ih (k + lz bag k) F (lz bag k) (lt ++ [la bag k (lz bag k)]) h1' hT1 hh (by omega) hl.2 (by omega) hl.1 (by simp only [List.length_append, List.length_cons, List.length_nil]; omega)
        exact ⟨h2', q1, q2, FK.trans (fun q w1 w2 => p6 q (by omega) (by omega)) q3⟩
theorem M_hj {m : Nat} {h : Hs_t} {g : Mg_t} {bag : List Int32} (a7 : g.1 25 = ni bag.length) (a8 : sl (g.2 24) 0 bag.length = bag) (hb : bag.length ≤ 160) (d : Nat) : ∀ (k F st : Nat), 1 ≤ st → st ≤ 3 → bag.length ≤ k + d → k ≤ bag.length → f_M_text_b84 (F + d + 2) m (ni k) (ni st) (MH m g h) = f_M_text_b109 m (bI (hj bag d k)) (MH m g h) := by
  have st1 : ∀ st : Nat, 1 ≤ st → st ≤ 3 → f_M_text_b109 m (ni st) (MH m g h) = f_M_text_b109 m 1 (MH m g h) := by
    intro st h1 h2
    rw [f_M_text_b109, f_M_text_b109, if_neg (show ¬ ni st = 0 from niNE (b := 0) (by omega) (by omega) (by omega)), if_neg (by decide)]
  induction d with
  | zero =>
    intro k F st h1 h2 h3 h4
    rw [f_M_text_b84]
    simp only [mI_0, mP_0, mI_4, mP_4, mI_5, mP_5, mI_6, mP_6, mI_20, mP_20, mI_21, mP_21, mI_22, mP_22, mI_23, mP_23, mI_25, mP_25, mI_27, mP_27, mR_1, mG_1, mS_1, mR_2, mG_2, mS_2, mR_3, mG_3, mS_3, mR_7, mG_7, mS_7, mR_8, mG_8, mS_8, mR_9, mG_9, mS_9, mR_10, mG_10, mS_10, mR_11, mG_11, mS_11, mR_12, mG_12, mS_12, mR_13, mG_13, mS_13, mR_14, mG_14, mS_14, mR_15, mG_15, mS_15, mR_16, mG_16, mS_16, mR_17, mG_17, mS_17, mR_18, mG_18, mS_18, mR_19, mG_19, mS_19, mR_24, mG_24, mS_24, mR_26, mG_26, mS_26, mK_8, gS_1, gS_2, gA_1, gA_2, Option.bind_some, Option.bind_none, a7, hj]
    rw [if_pos (niL (by omega) (by omega) (by omega)), st1 st h1 h2]
    rfl
  | succ d ih =>
    intro k F st h1 h2 h3 h4
    rw [show F + (d + 1) + 2 = (F + d + 2) + 1 by omega, f_M_text_b84]
    simp only [mI_0, mP_0, mI_4, mP_4, mI_5, mP_5, mI_6, mP_6, mI_20, mP_20, mI_21, mP_21, mI_22, mP_22, mI_23, mP_23, mI_25, mP_25, mI_27, mP_27, mR_1, mG_1, mS_1, mR_2, mG_2, mS_2, mR_3, mG_3, mS_3, mR_7, mG_7, mS_7, mR_8, mG_8, mS_8, mR_9, mG_9, mS_9, mR_10, mG_10, mS_10, mR_11, mG_11, mS_11, mR_12, mG_12, mS_12, mR_13, mG_13, mS_13, mR_14, mG_14, mS_14, mR_15, mG_15, mS_15, mR_16, mG_16, mS_16, mR_17, mG_17, mS_17, mR_18, mG_18, mS_18, mR_19, mG_19, mS_19, mR_24, mG_24, mS_24, mR_26, mG_26, mS_26, mK_8, gS_1, gS_2, gA_1, gA_2, Option.bind_some, Option.bind_none, a7, hj]
    by_cases h0 : bag.length ≤ k
    · rw [if_pos (niL (by omega) (by omega) h0), if_pos h0, st1 st h1 h2]
      rfl
    · have hl := lz_le bag k (by omega)
      rw [if_neg (niNL (by omega) (by omega) (by omega)), if_neg (show ¬ ni st ≤ 0 from niNL (b := 0) (by omega) (by omega) (by omega)), if_neg h0, M_lz a7 a8 hb k (by omega)]
      simp only [bd_I, re_I]
      by_cases hz : lz bag k = 0
      · rw [if_pos hz, hz, show F + d + 2 = (F + d + 1) + 1 by omega, f_M_text_b84]
        simp only [mI_0, mP_0, mI_4, mP_4, mI_5, mP_5, mI_6, mP_6, mI_20, mP_20, mI_21, mP_21, mI_22, mP_22, mI_23, mP_23, mI_25, mP_25, mI_27, mP_27, mR_1, mG_1, mS_1, mR_2, mG_2, mS_2, mR_3, mG_3, mS_3, mR_7, mG_7, mS_7, mR_8, mG_8, mS_8, mR_9, mG_9, mS_9, mR_10, mG_10, mS_10, mR_11, mG_11, mS_11, mR_12, mG_12, mS_12, mR_13, mG_13, mS_13, mR_14, mG_14, mS_14, mR_15, mG_15, mS_15, mR_16, mG_16, mS_16, mR_17, mG_17, mS_17, mR_18, mG_18, mS_18, mR_19, mG_19, mS_19, mR_24, mG_24, mS_24, mR_26, mG_26, mS_26, mK_8, gS_1, gS_2, gA_1, gA_2, Option.bind_some, Option.bind_none, a7, show (ni 0 ≤ 0) = True by decide, if_true, ite_self]
        rfl
      · rw [if_neg hz, ni_add, ih _ F _ (by omega) hl.1 (by omega) hl.2]
theorem M_tl (m : Nat) (h : Hs_t) (ls : List Ly_t) (s : Sr_t) (lv lvm cl : Int32) (bag : List Int32) (hb : bag.length ≤ 160) (d : Nat) : ∀ (k F : Nat) (lt : List Int32) (g : Mg_t), RW g ls s lv lvm cl bag lt → hj bag d k = true → bag.length ≤ k + d → k ≤ bag.length → lt.length + (bag.length - k) ≤ 118 → ∃ g', f_M_text_b127 (F + d + 1) m (ni k) (MH m g h) = re_I (ni (tl bag d k lt).length) (MH m g' h) ∧ RW g' ls s lv lvm cl bag (tl bag d k lt) ∧ g'.1 0 = g.1 0 := by
  induction d with
  | zero =>
    intro k F lt g hR hh h1 h2 hlt
    have a7 : g.1 25 = ni bag.length := hR.2.2.2.2.2.2.1
    have a9 : g.1 27 = ni lt.length := hR.2.2.2.2.2.2.2.2.1
    rw [f_M_text_b127]
    simp only [mI_0, mP_0, mI_4, mP_4, mI_5, mP_5, mI_6, mP_6, mI_20, mP_20, mI_21, mP_21, mI_22, mP_22, mI_23, mP_23, mI_25, mP_25, mI_27, mP_27, mR_1, mG_1, mS_1, mR_2, mG_2, mS_2, mR_3, mG_3, mS_3, mR_7, mG_7, mS_7, mR_8, mG_8, mS_8, mR_9, mG_9, mS_9, mR_10, mG_10, mS_10, mR_11, mG_11, mS_11, mR_12, mG_12, mS_12, mR_13, mG_13, mS_13, mR_14, mG_14, mS_14, mR_15, mG_15, mS_15, mR_16, mG_16, mS_16, mR_17, mG_17, mS_17, mR_18, mG_18, mS_18, mR_19, mG_19, mS_19, mR_24, mG_24, mS_24, mR_26, mG_26, mS_26, mK_8, gS_1, gS_2, gA_1, gA_2, Option.bind_some, Option.bind_none, a7, a9, tl]
    rw [if_pos (niL (by omega) (by omega) (by omega))]
    exact ⟨g, rfl, hR, rfl⟩
  | succ d ih =>
    intro k F lt g hR hh h1 h2 hlt
    have a7 : g.1 25 = ni bag.length := hR.2.2.2.2.2.2.1
    have a8 := hR.2.2.2.2.2.2.2.1
    have a9 : g.1 27 = ni lt.length := hR.2.2.2.2.2.2.2.2.1
    have a10 := hR.2.2.2.2.2.2.2.2.2
    rw [show F + (d + 1) + 1 = (F + d + 1) + 1 by omega, f_M_text_b127]
    simp only [hj] at hh
    simp only [tl, mI_0, mP_0, mI_4, mP_4, mI_5, mP_5, mI_6, mP_6, mI_20, mP_20, mI_21, mP_21, mI_22, mP_22, mI_23, mP_23, mI_25, mP_25, mI_27, mP_27, mR_1, mG_1, mS_1, mR_2, mG_2, mS_2, mR_3, mG_3, mS_3, mR_7, mG_7, mS_7, mR_8, mG_8, mS_8, mR_9, mG_9, mS_9, mR_10, mG_10, mS_10, mR_11, mG_11, mS_11, mR_12, mG_12, mS_12, mR_13, mG_13, mS_13, mR_14, mG_14, mS_14, mR_15, mG_15, mS_15, mR_16, mG_16, mS_16, mR_17, mG_17, mS_17, mR_18, mG_18, mS_18, mR_19, mG_19, mS_19, mR_24, mG_24, mS_24, mR_26, mG_26, mS_26, mK_8, gS_1, gS_2, gA_1, gA_2, Option.bind_some, Option.bind_none, a7, a9]
    by_cases h0 : bag.length ≤ k
    · rw [if_pos (niL (by omega) (by omega) h0), if_pos h0]
      exact ⟨g, rfl, hR, rfl⟩
    · rw [if_neg h0] at hh
      rw [if_neg h0, if_neg (niNL (by omega) (by omega) (by omega))]
      by_cases hz : lz bag k = 0
      · rw [if_pos hz] at hh; cases hh
      · rw [if_neg hz] at hh
        have hl := lz_le bag k (by omega)
        have i1 : in_R (ni lt.length) 120 = true := ni_in_t (by omega) (by omega)
        have i2 : (ni lt.length).toNatClampNeg = lt.length := ni_nat (by omega)
        rw [M_lz a7 a8 hb k (by omega)]
        simp only [bd_I, re_I, mI_0, mP_0, mI_4, mP_4, mI_5, mP_5, mI_6, mP_6, mI_20, mP_20, mI_21, mP_21, mI_22, mP_22, mI_23, mP_23, mI_25, mP_25, mI_27, mP_27, mR_1, mG_1, mS_1, mR_2, mG_2, mS_2, mR_3, mG_3, mS_3, mR_7, mG_7, mS_7, mR_8, mG_8, mS_8, mR_9, mG_9, mS_9, mR_10, mG_10, mS_10, mR_11, mG_11, mS_11, mR_12, mG_12, mS_12, mR_13, mG_13, mS_13, mR_14, mG_14, mS_14, mR_15, mG_15, mS_15, mR_16, mG_16, mS_16, mR_17, mG_17, mS_17, mR_18, mG_18, mS_18, mR_19, mG_19, mS_19, mR_24, mG_24, mS_24, mR_26, mG_26, mS_26, mK_8, gS_1, gS_2, gA_1, gA_2, Option.bind_some, Option.bind_none, a9]
        rw [M_la a8 hb k (lz bag k) (by omega) hl.1 hl.2]
        simp only [re_I, mI_0, mP_0, mI_4, mP_4, mI_5, mP_5, mI_6, mP_6, mI_20, mP_20, mI_21, mP_21, mI_22, mP_22, mI_23, mP_23, mI_25, mP_25, mI_27, mP_27, mR_1, mG_1, mS_1, mR_2, mG_2, mS_2, mR_3, mG_3, mS_3, mR_7, mG_7, mS_7, mR_8, mG_8, mS_8, mR_9, mG_9, mS_9, mR_10, mG_10, mS_10, mR_11, mG_11, mS_11, mR_12, mG_12, mS_12, mR_13, mG_13, mS_13, mR_14, mG_14, mS_14, mR_15, mG_15, mS_15, mR_16, mG_16, mS_16, mR_17, mG_17, mS_17, mR_18, mG_18, mS_18, mR_19, mG_19, mS_19, mR_24, mG_24, mS_24, mR_26, mG_26, mS_26, mK_8, gS_1, gS_2, gA_1, gA_2, Option.bind_some, Option.bind_none, i1, i2, if_true, ni_p1, ni_add, a9, Nat.reduceEqDiff, if_false]
        have hR2 : RW (gS (gA g 26 (upd (g.2 26) lt.length (la bag k (lz bag k)))) 27 (ni (lt.length + 1))) ls s lv lvm cl bag (lt ++ [la bag k (lz bag k)]) := by
          obtain ⟨b1, b2, b3, b4, b5, b6, b7, b8, b9, b10⟩ := hR
          refine ⟨b1.congr fun k k1 k2 => by simp only [gS_2, gA_2]; rw [if_neg (by omega)], b2, b3, b4, b5, b6, b7, b8, by rw [List.length_append]; rfl, ?_⟩
          rw [List.length_append]
          show sl (upd (g.2 26) lt.length (la bag k (lz bag k))) 0 (lt.length + 1) = _
          rw [sl_snoc, sl_upd _ _ _ _ _ (by omega), b10]
          simp [upd]
        obtain ⟨g', q1, q2, q3⟩ := ih (k + lz bag k) F _ _ hR2 hh (by omega) hl.2 (by simp only [List.length_append, List.length_cons, List.length_nil]; omega)
        exact ⟨g', q1, q2, q3⟩
