/-! The calls keep the tower well. -/
theorem w_read {w : Wd_t} (hv : wv_O w) : wv_O (op_read w).2 := by
  obtain ⟨ls, s, lv, lvm, cl, bag, lt⟩ := w
  obtain ⟨v1, v2, v3, v4, v5, v6, v7, v8⟩ := hv
  simp only [op_read]
  split
  · have hK := rd_iv ls s lv 1 (by omega) v1 v3
    generalize rd ls s lv 1 = z at *
    match z, hK with
    | ((none, ls1, s1), lv1), hK => exact ⟨hK.1, by rw [show ls1.length = ls.length from hK.2.1]; exact v2, hK.2.2.1, v4, v5, by simp, by_nil, v8⟩
    | ((some bs, ls1, s1), lv1), hK =>
      have hb := hK.2.2.2.2 _ rfl
      exact ⟨hK.1, by rw [show ls1.length = ls.length from hK.2.1]; exact v2, hK.2.2.1, v4, v5, by have := hb.1; dsimp only; omega, hb.2.1, v8⟩
  · exact ⟨v1, v2, v3, v4, v5, by simp, by_nil, v8⟩
theorem w_some {w : Wd_t} (hv : wv_O w) (x : Int32) : wv_O (op_some w x).2 := by
  obtain ⟨ls, s, lv, lvm, cl, bag, lt⟩ := w
  obtain ⟨v1, v2, v3, v4, v5, v6, v7, v8⟩ := hv
  have h0 : wv_O (ls, s, lv, lvm, cl, [], lt) := ⟨v1, v2, v3, v4, v5, by simp, by_nil, v8⟩
  simp only [op_some]
  split
  · split
    · exact h0
    · split
      · rename_i x1 x2
        obtain ⟨n, rfl, n1, n2⟩ := rg (lo := 1) (hi := 60) x1 x2 (by omega) (by omega)
        rw [ni_nat (by omega)]
        have hK := rd_iv ls s lv n (by omega) v1 v3
        generalize rd ls s lv n = z at *
        match z, hK with
        | ((none, ls1, s1), lv1), hK => exact ⟨hK.1, by rw [show ls1.length = ls.length from hK.2.1]; exact v2, hK.2.2.1, v4, v5, by simp, by_nil, v8⟩
        | ((some bs, ls1, s1), lv1), hK =>
          have hb := hK.2.2.2.2 _ rfl
          exact ⟨hK.1, by rw [show ls1.length = ls.length from hK.2.1]; exact v2, hK.2.2.1, v4, v5, by have := hb.1; dsimp only; omega, hb.2.1, v8⟩
      · exact h0
  · exact h0
theorem w_full {w : Wd_t} (hv : wv_O w) (x : Int32) : wv_O (op_full w x).2 := by
  obtain ⟨ls, s, lv, lvm, cl, bag, lt⟩ := w
  obtain ⟨v1, v2, v3, v4, v5, v6, v7, v8⟩ := hv
  have h0 : wv_O (ls, s, lv, lvm, cl, [], lt) := ⟨v1, v2, v3, v4, v5, by simp, by_nil, v8⟩
  simp only [op_full]
  split
  · split
    · exact h0
    · split
      · rename_i x1 x2
        obtain ⟨n, rfl, n1, n2⟩ := rg (lo := 0) (hi := 60) x1 x2 (by omega) (by omega)
        rw [ni_nat (by omega)]
        have hK := fl_iv n n ls s lv [] (Nat.le_refl _) v1 v3 by_nil
        generalize fl n n ls s lv [] = z at *
        match z, hK with
        | (0, ls1, s1, lv1, bag1), hK => exact ⟨hK.1, by rw [show ls1.length = ls.length from hK.2.1]; exact v2, hK.2.2.1, v4, v5, by have : bag1.length ≤ _ := hK.2.2.2.2.2.1; simp only [List.length_nil] at this; dsimp only; omega, hK.2.2.2.2.1, v8⟩
        | (c + 1, ls1, s1, lv1, bag1), hK => exact ⟨hK.1, by rw [show ls1.length = ls.length from hK.2.1]; exact v2, hK.2.2.1, v4, v5, by have : bag1.length ≤ _ := hK.2.2.2.2.2.1; simp only [List.length_nil] at this; dsimp only; omega, hK.2.2.2.2.1, v8⟩
      · exact h0
  · exact h0
theorem w_number {w : Wd_t} (hv : wv_O w) (x : Int32) : wv_O (op_number w x).2 := by
  obtain ⟨ls, s, lv, lvm, cl, bag, lt⟩ := w
  obtain ⟨v1, v2, v3, v4, v5, v6, v7, v8⟩ := hv
  have h0 : wv_O (ls, s, lv, lvm, cl, [], lt) := ⟨v1, v2, v3, v4, v5, by simp, by_nil, v8⟩
  simp only [op_number]
  split
  · split
    · exact h0
    · split
      · rename_i x1 x2
        obtain ⟨n, rfl, n1, n2⟩ := rg (lo := 1) (hi := 8) x1 x2 (by omega) (by omega)
        rw [ni_nat (by omega)]
        have hK := fl_iv n n ls s lv [] (Nat.le_refl _) v1 v3 by_nil
        generalize fl n n ls s lv [] = z at *
        match z, hK with
        | (0, ls1, s1, lv1, bag1), hK => exact ⟨hK.1, by rw [show ls1.length = ls.length from hK.2.1]; exact v2, hK.2.2.1, v4, v5, by have : bag1.length ≤ _ := hK.2.2.2.2.2.1; simp only [List.length_nil] at this; dsimp only; omega, hK.2.2.2.2.1, v8⟩
        | (c + 1, ls1, s1, lv1, bag1), hK => exact ⟨hK.1, by rw [show ls1.length = ls.length from hK.2.1]; exact v2, hK.2.2.1, v4, v5, by have : bag1.length ≤ _ := hK.2.2.2.2.2.1; simp only [List.length_nil] at this; dsimp only; omega, hK.2.2.2.2.1, v8⟩
      · exact h0
  · exact h0
theorem w_skip {w : Wd_t} (hv : wv_O w) (x : Int32) : wv_O (op_skip w x).2 := by
  obtain ⟨ls, s, lv, lvm, cl, bag, lt⟩ := w
  obtain ⟨v1, v2, v3, v4, v5, v6, v7, v8⟩ := hv
  have h0 : wv_O (ls, s, lv, lvm, cl, [], lt) := ⟨v1, v2, v3, v4, v5, by simp, by_nil, v8⟩
  simp only [op_skip]
  split
  · split
    · exact h0
    · split
      · have hK := sk_iv x.toNatClampNeg x.toNatClampNeg 0 ls s lv v1 v3
        generalize sk x.toNatClampNeg x.toNatClampNeg 0 ls s lv = z at *
        match z, hK with
        | (some c, ls1, s1, lv1), hK => exact ⟨hK.1, by rw [show ls1.length = ls.length from hK.2.1]; exact v2, hK.2.2, v4, v5, by simp, by_nil, v8⟩
        | (none, ls1, s1, lv1), hK => exact ⟨hK.1, by rw [show ls1.length = ls.length from hK.2.1]; exact v2, hK.2.2, v4, v5, by simp, by_nil, v8⟩
      · exact h0
  · exact h0
theorem w_line {w : Wd_t} (hv : wv_O w) : wv_O (op_line w).2 := by
  obtain ⟨ls, s, lv, lvm, cl, bag, lt⟩ := w
  obtain ⟨v1, v2, v3, v4, v5, v6, v7, v8⟩ := hv
  have h0 : wv_O (ls, s, lv, lvm, cl, [], lt) := ⟨v1, v2, v3, v4, v5, by simp, by_nil, v8⟩
  simp only [op_line]
  split
  · have hK := li_iv 161 ls s lv [] v1 v3 by_nil (by have := ph_160 v1 v2; simp only [List.length_nil]; dsimp only at this; omega)
    generalize li 161 ls s lv [] = z at *
    match z, hK with
    | (some c, ls1, s1, lv1, bag1), hK => exact ⟨hK.1, by rw [show ls1.length = ls.length from hK.2.1]; exact v2, hK.2.2.1, v4, v5, hK.2.2.2.2, hK.2.2.2.1, v8⟩
    | (none, ls1, s1, lv1, bag1), hK => exact ⟨hK.1, by rw [show ls1.length = ls.length from hK.2.1]; exact v2, hK.2.2.1, v4, v5, hK.2.2.2.2, hK.2.2.2.1, v8⟩
  · exact h0
theorem w_text {w : Wd_t} (hv : wv_O w) : wv_O (op_text w).2 := by
  obtain ⟨ls, s, lv, lvm, cl, bag, lt⟩ := w
  obtain ⟨v1, v2, v3, v4, v5, v6, v7, v8⟩ := hv
  have h0 : wv_O (ls, s, lv, lvm, cl, [], lt) := ⟨v1, v2, v3, v4, v5, by simp, by_nil, v8⟩
  simp only [op_text]
  split
  · have hK := fl_iv 2 2 ls s lv [] (Nat.le_refl _) v1 v3 by_nil
    generalize fl 2 2 ls s lv [] = z at *
    match z, hK with
    | (c + 1, ls1, s1, lv1, bag1), hK => exact ⟨hK.1, by rw [show ls1.length = ls.length from hK.2.1]; exact v2, hK.2.2.1, v4, v5, by have : bag1.length ≤ _ := hK.2.2.2.2.2.1; simp only [List.length_nil] at this; dsimp only; omega, hK.2.2.2.2.1, v8⟩
    | (0, ls1, s1, lv1, bag1), hK =>
      have hl1 : ls1.length ≤ 5 := by rw [show ls1.length = ls.length from hK.2.1]; exact v2
      have hb1 : bag1.length = 2 := (hK.2.2.2.2.2.2 rfl).1
      have hlv1 : lv1 = 0 ∨ lv1 = 1 := hK.2.2.1
      have hby : by_A bag1 := hK.2.2.2.2.1
      have hv1 : iv_O ls1 s1 := hK.1
      dsimp only
      split
      · rename_i hn
        have hK2 := fl_iv (tn bag1) (tn bag1) ls1 s1 lv1 bag1 (Nat.le_refl _) hv1 hlv1 hby
        generalize fl (tn bag1) (tn bag1) ls1 s1 lv1 bag1 = z2 at *
        match z2, hK2 with
        | (c + 1, ls2, s2, lv2, bag2), hK2 => exact ⟨hK2.1, by rw [show ls2.length = ls1.length from hK2.2.1]; exact hl1, hK2.2.2.1, v4, v5, by have : bag2.length ≤ _ := hK2.2.2.2.2.2.1; dsimp only; omega, hK2.2.2.2.2.1, v8⟩
        | (0, ls2, s2, lv2, bag2), hK2 =>
          have hl2 : bag2.length = bag1.length + tn bag1 := (hK2.2.2.2.2.2.2 rfl).1
          dsimp only
          split
          · rename_i hj'
            have := tl_len bag2 200 2 [] hj' (by omega) (by omega)
            simp only [List.length_nil] at this
            exact ⟨hK2.1, by rw [show ls2.length = ls1.length from hK2.2.1]; exact hl1, hK2.2.2.1, v4, v5, by dsimp only; omega, hK2.2.2.2.2.1, by dsimp only; omega⟩
          · exact ⟨hK2.1, by rw [show ls2.length = ls1.length from hK2.2.1]; exact hl1, hK2.2.2.1, v4, v5, by dsimp only; omega, hK2.2.2.2.2.1, v8⟩
      · exact ⟨hv1, hl1, hlv1, v4, v5, by dsimp only; omega, hby, v8⟩
  · exact h0
theorem w_mark {w : Wd_t} (hv : wv_O w) (x : Int32) : wv_O (op_mark w x).2 := by
  obtain ⟨ls, s, lv, lvm, cl, bag, lt⟩ := w
  have hv' := hv
  obtain ⟨v1, v2, v3, v4, v5, v6, v7, v8⟩ := hv
  simp only [op_mark]
  split
  · split
    · exact hv'
    · split
      · rename_i x1 x2
        obtain ⟨n, rfl, n1, n2⟩ := rg (lo := 0) (hi := 32) x1 x2 (by omega) (by omega)
        rw [ni_nat (by omega)]
        split
        · exact ⟨(tmk_iv n n2 s ls v1).1, by rw [show (tmk n ls, s, lv, lv, cl, bag, lt).1.length = (tmk n ls).length from rfl, tmk_len]; exact v2, v3, v3, v5, v6, v7, v8⟩
        · exact hv'
      · exact hv'
  · exact hv'
theorem w_reset {w : Wd_t} (hv : wv_O w) : wv_O (op_reset w).2 := by
  obtain ⟨ls, s, lv, lvm, cl, bag, lt⟩ := w
  have hv' := hv
  obtain ⟨v1, v2, v3, v4, v5, v6, v7, v8⟩ := hv
  simp only [op_reset]
  split
  · split
    · split
      · exact ⟨(gbk_iv s ls v1).1, by rw [show (gbk ls, s, lvm, lvm, cl, bag, lt).1.length = (gbk ls).length from rfl, gbk_len]; exact v2, v4, v4, v5, v6, v7, v8⟩
      · exact hv'
    · exact hv'
  · exact hv'
theorem w_unread {w : Wd_t} (hv : wv_O w) (x : Int32) : wv_O (op_unread w x).2 := by
  obtain ⟨ls, s, lv, lvm, cl, bag, lt⟩ := w
  have hv' := hv
  obtain ⟨v1, v2, v3, v4, v5, v6, v7, v8⟩ := hv
  simp only [op_unread]
  split
  · split
    · exact hv'
    · split
      · rename_i x1 x2
        obtain ⟨n, rfl, n1, n2⟩ := rg (lo := 0) (hi := 255) x1 x2 (by omega) (by omega)
        match ls, v1, v2, hv' with
        | [], v1, v2, hv' => exact hv'
        | .inl q :: ls, v1, v2, hv' => exact hv'
        | .inr (.inr q) :: ls, v1, v2, hv' => exact hv'
        | .inr (.inl (rm, st)) :: ls, v1, v2, hv' =>
          dsimp only
          split
          · rename_i hr
            obtain ⟨⟨o1, o2, o3, o4⟩, hc, hv2⟩ := v1
            refine ⟨⟨⟨o1, o2, fun b hb => ?_, by simp only [List.length_cons]; omega⟩, ?_, hv2⟩, v2, v3, v4, v5, v6, v7, v8⟩
            · simp only [List.mem_cons] at hb
              rcases hb with rfl | hb
              · exact ⟨n, by omega, rfl⟩
              · exact o3 b hb
            · have hph : ph_N ls s ≤ 120 + 8 * ls.length := by
                cases ls with
                | nil => simp only [ph_N]; omega
                | cons L ls => have : ph_N (L :: ls) s + kb_N (L :: ls) ≤ 120 + 8 * (L :: ls).length := hv2.2.1; omega
              simp only [ph_N, kb_N, List.length_cons]; omega
          · exact hv'
      · exact hv'
  · exact hv'
theorem w_feed {w : Wd_t} (hv : wv_O w) (v x : Int32) : wv_O (op_feed w v x).2 := by
  obtain ⟨ls, s, lv, lvm, cl, bag, lt⟩ := w
  have hv' := hv
  obtain ⟨v1, v2, v3, v4, v5, v6, v7, v8⟩ := hv
  simp only [op_feed]
  split
  · exact hv'
  · split
    · split
      · rename_i hr
        have := fdl_K v x.toNatClampNeg s (iv_sr v1) hr
        exact ⟨iv_src v1 this.2 this.1, v2, v3, v4, v5, v6, v7, v8⟩
      · exact hv'
    · exact hv'
theorem w_portion {w : Wd_t} (hv : wv_O w) : wv_O (op_portion w) := by
  obtain ⟨ls, ⟨f, bg, br, c, t⟩, lv, lvm, cl, bag, lt⟩ := w
  obtain ⟨v1, v2, v3, v4, v5, v6, v7, v8⟩ := hv
  obtain ⟨o1, o2, o3, o4, o5⟩ := iv_sr v1
  exact ⟨iv_src v1 rfl ⟨o1, o2, o3, fun j => by show upd bg c 1 j = 0 ∨ upd bg c 1 j = 1; simp only [upd]; split; exact Or.inr rfl; exact o4 j, o5⟩, v2, v3, v4, v5, v6, v7, v8⟩
theorem w_break {w : Wd_t} (hv : wv_O w) (x : Int32) : wv_O (op_break w x).2 := by
  obtain ⟨ls, ⟨f, bg, br, c, t⟩, lv, lvm, cl, bag, lt⟩ := w
  have hv' := hv
  obtain ⟨v1, v2, v3, v4, v5, v6, v7, v8⟩ := hv
  obtain ⟨o1, o2, o3, o4, o5⟩ := iv_sr v1
  simp only [op_break]
  split
  · exact ⟨iv_src v1 rfl ⟨o1, o2, o3, o4, fun j => by show (if j < 121 then (0 : Int32) else br j) = 0 ∨ (if j < 121 then (0 : Int32) else br j) = 1; split; exact Or.inl rfl; exact o5 j⟩, v2, v3, v4, v5, v6, v7, v8⟩
  · split
    · exact hv'
    · split
      · exact ⟨iv_src v1 rfl ⟨o1, o2, o3, o4, fun j => by show upd br x.toNatClampNeg 1 j = 0 ∨ upd br x.toNatClampNeg 1 j = 1; simp only [upd]; split; exact Or.inr rfl; exact o5 j⟩, v2, v3, v4, v5, v6, v7, v8⟩
      · exact hv'
theorem w_close {w : Wd_t} (hv : wv_O w) : wv_O (op_close w) := by
  obtain ⟨ls, s, lv, lvm, cl, bag, lt⟩ := w
  obtain ⟨v1, v2, v3, v4, v5, v6, v7, v8⟩ := hv
  exact ⟨v1, v2, v3, v4, Or.inr rfl, v6, v7, v8⟩
theorem w_push {w : Wd_t} (hv : wv_O w) (k x : Int32) : wv_O (op_push w k x).2 := by
  obtain ⟨ls, s, lv, lvm, cl, bag, lt⟩ := w
  have hv' := hv
  obtain ⟨v1, v2, v3, v4, v5, v6, v7, v8⟩ := hv
  simp only [op_push]
  split
  · rename_i hg
    split
    · split
      · rename_i hl
        obtain ⟨h', q1, q2, q3, q4, q5⟩ := T_over 0 k x (0, fun _ => none) hg
        refine ⟨⟨q4, ?_, v1⟩, hl, v3, v4, v5, v6, v7, v8⟩
        have hph : ph_N ls s + kb_N ls ≤ 120 + 8 * ls.length := by
          cases ls with
          | nil => simp only [ph_N, kb_N, List.length_nil]; omega
          | cons L ls => exact v1.2.1
        unfold nl_L
        by_cases k1 : k = 1
        · simp only [k1, if_true, ph_N, kb_N, List.length_cons, List.length_nil]; omega
        · by_cases k2 : k = 2
          · rw [if_neg k1, if_pos k2]; simp only [ph_N, kb_N, List.length_cons, List.length_nil]; omega
          · rw [if_neg k1, if_neg k2]
            by_cases k3 : k = 3
            · rw [if_pos k3]; simp only [ph_N, kb_N, List.length_cons]; omega
            · rw [if_neg k3]
              by_cases k4 : k = 4
              · rw [if_pos k4]; simp only [ph_N, kb_N, List.length_cons]; omega
              · rw [if_neg k4]; simp only [ph_N, kb_N, List.length_cons]; omega
      · exact hv'
    · exact hv'
  · exact hv'
