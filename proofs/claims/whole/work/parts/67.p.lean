/-! mark and reset. -/
def op_mark (w : Wd_t) (x : Int32) : (Option Value ⊕ Nat) × Wd_t := match w with
  | (ls, s, lv, lvm, cl, r) => if cl = 0 then (if x < 0 then (.inr 9, (ls, s, lv, lvm, cl, r)) else if x ≤ 32 then (if cmk ls then (.inl none, (tmk x.toNatClampNeg ls, s, lv, lv, cl, r)) else (.inr 12, (ls, s, lv, lvm, cl, r))) else (.inr 9, (ls, s, lv, lvm, cl, r))) else (.inr 10, (ls, s, lv, lvm, cl, r))
def op_reset (w : Wd_t) : (Option Value ⊕ Nat) × Wd_t := match w with
  | (ls, s, lv, lvm, cl, r) => if cl = 0 then (if cmk ls then (if hmk ls then (.inl none, (gbk ls, s, lvm, lvm, cl, r)) else (.inr 10, (ls, s, lv, lvm, cl, r))) else (.inr 12, (ls, s, lv, lvm, cl, r))) else (.inr 10, (ls, s, lv, lvm, cl, r))
theorem tmk_len (l : Nat) : ∀ ls : List Ly_t, (tmk l ls).length = ls.length
  | [] => rfl
  | .inl _ :: _ => rfl
  | .inr (.inl _) :: _ => rfl
  | .inr (.inr (.inl (lf, _))) :: ls => by simp only [tmk, List.length_cons, tmk_len l ls]
  | .inr (.inr (.inr (.inl (key, cd, _)))) :: ls => by simp only [tmk, List.length_cons, tmk_len l ls]
  | .inr (.inr (.inr (.inr (e, _, cr, _)))) :: ls => by simp only [tmk, List.length_cons, tmk_len l ls]
theorem gbk_len : ∀ ls : List Ly_t, (gbk ls).length = ls.length
  | [] => rfl
  | .inl _ :: _ => rfl
  | .inr (.inl _) :: _ => rfl
  | .inr (.inr (.inl (_, lm))) :: ls => by simp only [gbk, List.length_cons, gbk_len ls]
  | .inr (.inr (.inr (.inl (key, _, cm)))) :: ls => by simp only [gbk, List.length_cons, gbk_len ls]
  | .inr (.inr (.inr (.inr (_, em, _, crm)))) :: ls => by simp only [gbk, List.length_cons, gbk_len ls]
theorem tmk_iv (l : Nat) (hl : l ≤ 32) (s : Sr_t) : ∀ ls : List Ly_t, iv_O ls s → iv_O (tmk l ls) s ∧ ph_N (tmk l ls) s = ph_N ls s ∧ kb_N (tmk l ls) ≤ kb_N ls
  | [], hv => ⟨hv, rfl, Nat.le_refl _⟩
  | .inl (rm, kp, tg, mq) :: ls, hv => by
    obtain ⟨⟨o1, o2, o3, o4, o5, o6⟩, hc, hv2⟩ := hv
    simp only [ph_N, kb_N, List.length_cons] at hc
    exact ⟨⟨⟨o1, o2, by_nil, o4, by simp only [List.length_nil]; omega, hl, by simp⟩, by simp only [ph_N, kb_N, List.length_cons, List.length_nil]; omega, hv2⟩, rfl, by simp only [tmk, kb_N, List.length_nil]; omega⟩
  | .inr (.inl _) :: _, hv => ⟨hv, rfl, Nat.le_refl _⟩
  | .inr (.inr (.inl (lf, lm))) :: ls, hv => by
    obtain ⟨i1, i2, i3⟩ := tmk_iv l hl s ls hv.2.2
    have hc := hv.2.1
    simp only [ph_N, kb_N, List.length_cons] at hc
    exact ⟨⟨⟨hv.1.1, hv.1.1⟩, by simp only [ph_N, kb_N, List.length_cons, tmk_len]; omega, i1⟩, i2, i3⟩
  | .inr (.inr (.inr (.inl (key, cd, cm)))) :: ls, hv => by
    obtain ⟨i1, i2, i3⟩ := tmk_iv l hl s ls hv.2.2
    have hc := hv.2.1
    simp only [ph_N, kb_N, List.length_cons] at hc
    exact ⟨⟨trivial, by simp only [ph_N, kb_N, List.length_cons, tmk_len]; omega, i1⟩, i2, i3⟩
  | .inr (.inr (.inr (.inr (e, em, cr, crm)))) :: ls, hv => by
    obtain ⟨i1, i2, i3⟩ := tmk_iv l hl s ls hv.2.2
    have hc := hv.2.1
    simp only [ph_N, kb_N, List.length_cons] at hc
    exact ⟨⟨⟨hv.1.1, hv.1.1⟩, by simp only [ph_N, kb_N, List.length_cons, tmk_len]; omega, i1⟩, i2, i3⟩
theorem gbk_iv (s : Sr_t) : ∀ ls : List Ly_t, iv_O ls s → iv_O (gbk ls) s ∧ ph_N (gbk ls) s + kb_N (gbk ls) ≤ ph_N ls s + kb_N ls
  | [], hv => ⟨hv, Nat.le_refl _⟩
  | .inl (rm, kp, tg, mq) :: ls, hv => by
    obtain ⟨⟨o1, o2, o3, o4, o5, o6⟩, hc, hv2⟩ := hv
    simp only [ph_N, kb_N, List.length_cons] at hc
    refine ⟨⟨⟨o1, o2, by_nil, by_app o3 o4, by simp only [List.length_nil, List.length_append]; omega, ?_⟩, by simp only [ph_N, kb_N, List.length_cons, List.length_nil, List.length_append]; omega, hv2⟩, by simp only [gbk, ph_N, kb_N, List.length_nil, List.length_append]; omega⟩
    cases mq with
    | none => rfl
    | some l => exact ⟨o6.1, by simp⟩
  | .inr (.inl _) :: _, hv => ⟨hv, Nat.le_refl _⟩
  | .inr (.inr (.inl (lf, lm))) :: ls, hv => by
    obtain ⟨i1, i2⟩ := gbk_iv s ls hv.2.2
    have hc := hv.2.1
    simp only [ph_N, kb_N, List.length_cons] at hc
    exact ⟨⟨⟨hv.1.2, hv.1.2⟩, by simp only [ph_N, kb_N, List.length_cons, gbk_len]; omega, i1⟩, i2⟩
  | .inr (.inr (.inr (.inl (key, cd, cm)))) :: ls, hv => by
    obtain ⟨i1, i2⟩ := gbk_iv s ls hv.2.2
    have hc := hv.2.1
    simp only [ph_N, kb_N, List.length_cons] at hc
    exact ⟨⟨trivial, by simp only [ph_N, kb_N, List.length_cons, gbk_len]; omega, i1⟩, i2⟩
  | .inr (.inr (.inr (.inr (e, em, cr, crm)))) :: ls, hv => by
    obtain ⟨i1, i2⟩ := gbk_iv s ls hv.2.2
    have hc := hv.2.1
    simp only [ph_N, kb_N, List.length_cons] at hc
    exact ⟨⟨⟨hv.1.2, hv.1.2⟩, by simp only [ph_N, kb_N, List.length_cons, gbk_len]; omega, i1⟩, i2⟩
theorem T_mark {b : Nat} {as : List Nat} {h : Hs_t} {w : Wd_t} (hT : RTw b as h w) (hv : wv_O w) (x : Int32) : TR b h (f_T_mark b x h) (op_mark w x).1 (op_mark w x).2 := by
  obtain ⟨ls, s, lv, lvm, cl, bag, lt⟩ := w
  have hT : RT b as h ls s lv lvm cl bag lt := hT
  obtain ⟨v1, v2, v3, v4, v5, v6, v7, v8⟩ := hv
  have v2 : ls.length ≤ 5 := v2
  rw [f_T_mark, ck_0 hT, Option.bind_some]
  simp only [op_mark]
  by_cases hc : cl = 0
  · rw [(T_rwc hT _).1 hc, if_pos hc]
    by_cases x1 : x < 0
    · rw [if_pos x1, if_pos x1]
      exact T_throw hT (FK.refl _ _) 9
    · rw [if_neg x1, if_neg x1]
      by_cases x2 : x ≤ 32
      · rw [if_pos x2, if_pos x2]
        obtain ⟨n, rfl, n1, n2⟩ := rg (lo := 0) (hi := 32) x1 x2 (by omega) (by omega)
        rw [ni_nat (by omega)]
        have a1 := hT.1
        have a8 := hT.2.2.2.2.2.2.2.1
        have a9 := hT.2.2.2.2.2.2.2.2.1
        have a10 := hT.2.2.2.2.2.2.2.2.2.1
        have hcm := (T_cmk b h s as ls dp_N a8 a9 (by simp only [dp_N]; omega)).1
        have f5 : fd_A [0] 5 h b = some (hd_N2 b as) := by simp only [fd_A, fd_V, a1]; rfl
        simp only [f5, Option.bind_some, hcm]
        cases hcc : cmk ls with
        | false =>
          simp only [bI, re_Z0, bd_I, if_true, Bool.false_eq_true, if_false]
          exact T_throw hT (FK.refl _ _) 12
        | true =>
          obtain ⟨h1, q1, q2, q3, q4⟩ := T_tmk b s n as ls dp_N h v1 a10 a8 a9 (by simp only [dp_N]; omega) hcc
          have hT1 : RT b as h1 (tmk n ls) s lv lvm cl bag lt := hT.lay q2 (tmk_len n ls) q3 (fun q hq => q4 q (Or.inl hq))
          have c1 := hT1.1
          simp only [bI, re_Z1, bd_I, show ((1 : Int32) = 0) = False by decide, if_false, if_true, f5, Option.bind_some, q1, fd_I, fd_V, fd_A, pt_V, pt_Z, ar_I, ar_Z, ar_R, as_I, as_Z, cp_I, ln_A, ck_T, tg_O, hp_2, List.contains_cons, List.contains_nil, List.getElem?_cons_zero, List.getElem?_cons_succ, List.set_cons_succ, List.set_cons_zero, List.length_cons, List.length_nil, Option.bind_some, Option.bind_none, Nat.reduceLT, Nat.reduceAdd, Nat.reduceBEq, BEq.rfl, beq_self_eq_true, Bool.or_false, Bool.or_true, Bool.true_or, Bool.false_or, decide_true, decide_false, Bool.not_false, Bool.not_true, Nat.zero_lt_succ, Nat.lt_add_left_iff_pos, Nat.succ_ne_self, ne_eq, not_false_eq_true, eq_self, if_true, if_false, ite_true, ite_false, bd_I, bd_V, bd_A, bd_L, re_I, re_V, Bool.true_and, Bool.and_true, reduceIte, reduceCtorEq, ↓reduceIte, Nat.reduceEqDiff, a1, c1, z_01 v3]
          exact ⟨_, as, rfl, hT1.own, FK.trans (fun q w1 w2 => q4 q (Or.inl (by omega))) (FK.set (Or.inl (by omega)))⟩
      · rw [if_neg x2, if_neg x2]
        exact T_throw hT (FK.refl _ _) 9
  · rw [if_neg hc]
    exact (T_rwc hT _).2 hc
theorem T_reset {b : Nat} {as : List Nat} {h : Hs_t} {w : Wd_t} (hT : RTw b as h w) (hv : wv_O w) : TR b h (f_T_reset b h) (op_reset w).1 (op_reset w).2 := by
  obtain ⟨ls, s, lv, lvm, cl, bag, lt⟩ := w
  have hT : RT b as h ls s lv lvm cl bag lt := hT
  obtain ⟨v1, v2, v3, v4, v5, v6, v7, v8⟩ := hv
  have v2 : ls.length ≤ 5 := v2
  rw [f_T_reset, ck_0 hT, Option.bind_some]
  simp only [op_reset]
  by_cases hc : cl = 0
  · rw [(T_rwc hT _).1 hc, if_pos hc]
    have a1 := hT.1
    have a8 := hT.2.2.2.2.2.2.2.1
    have a9 := hT.2.2.2.2.2.2.2.2.1
    have a10 := hT.2.2.2.2.2.2.2.2.2.1
    have hcm := T_cmk b h s as ls dp_N a8 a9 (by simp only [dp_N]; omega)
    have f5 : fd_A [0] 5 h b = some (hd_N2 b as) := by simp only [fd_A, fd_V, a1]; rfl
    simp only [f5, Option.bind_some, hcm.1]
    cases hcc : cmk ls with
    | false =>
      simp only [bI, re_Z0, bd_I, if_true, Bool.false_eq_true, if_false]
      exact T_throw hT (FK.refl _ _) 12
    | true =>
      simp only [bI, re_Z1, bd_I, show ((1 : Int32) = 0) = False by decide, if_false, if_true, f5, Option.bind_some, hcm.2]
      cases hhm : hmk ls with
      | false =>
        simp only [bI, re_Z0, if_true, Bool.false_eq_true, if_false]
        exact T_throw hT (FK.refl _ _) 10
      | true =>
        obtain ⟨h1, q1, q2, q3, q4⟩ := T_gbk b s as ls dp_N h v1 a10 a8 a9 (by simp only [dp_N]; omega) hcc
        have hT1 : RT b as h1 (gbk ls) s lv lvm cl bag lt := hT.lay q2 (gbk_len ls) q3 (fun q hq => q4 q (Or.inl hq))
        have c1 := hT1.1
        simp only [bI, re_Z1, show ((1 : Int32) = 0) = False by decide, if_false, if_true, f5, Option.bind_some, q1, fd_I, fd_V, fd_A, pt_V, pt_Z, ar_I, ar_Z, ar_R, as_I, as_Z, cp_I, ln_A, ck_T, tg_O, hp_2, List.contains_cons, List.contains_nil, List.getElem?_cons_zero, List.getElem?_cons_succ, List.set_cons_succ, List.set_cons_zero, List.length_cons, List.length_nil, Option.bind_some, Option.bind_none, Nat.reduceLT, Nat.reduceAdd, Nat.reduceBEq, BEq.rfl, beq_self_eq_true, Bool.or_false, Bool.or_true, Bool.true_or, Bool.false_or, decide_true, decide_false, Bool.not_false, Bool.not_true, Nat.zero_lt_succ, Nat.lt_add_left_iff_pos, Nat.succ_ne_self, ne_eq, not_false_eq_true, eq_self, if_true, if_false, ite_true, ite_false, bd_I, bd_V, bd_A, bd_L, re_I, re_V, Bool.true_and, Bool.and_true, reduceIte, reduceCtorEq, ↓reduceIte, Nat.reduceEqDiff, a1, c1, z_01 v4]
        exact ⟨_, as, rfl, hT1.own, FK.trans (fun q w1 w2 => q4 q (Or.inl (by omega))) (FK.set (Or.inl (by omega)))⟩
  · rw [if_neg hc]
    exact (T_rwc hT _).2 hc
def bbi : List Ly_t → Nat
  | .inr (.inr _) :: ls => bbi ls
  | _ :: ls => ls.length
  | [] => 0
theorem M_bb (m : Nat) (h : Hs_t) (g : Mg_t) : ∀ (ls : List Ly_t) (F : Nat), RMl g ls → ls.length ≤ 5 → f_M_bufferBelow_b7 (F + ls.length + 1) m (ni ls.length - 1) (MH m g h) = re_I (if cmk ls then ni (bbi ls) else -1) (MH m g h)
  | [], F, _, _ => by
    rw [f_M_bufferBelow_b7, if_pos (show ni ([] : List Ly_t).length - 1 < 0 by decide), f_M_bufferBelow_b27, if_pos (show ni ([] : List Ly_t).length - 1 < 0 by decide)]
    rfl
  | L :: ls, F, hR, hL => by
    have hl : ls.length < 5 := hL
    have h1 : in_R (ni ls.length) 5 = true := ni_in_t (by omega) hl
    have h2 : (ni ls.length).toNatClampNeg = ls.length := ni_nat (by omega)
    have ih := M_bb m h g ls F hR.2 (by omega)
    rw [show F + (L :: ls).length + 1 = (F + ls.length + 1) + 1 by simp only [List.length_cons]; omega, show ni (L :: ls).length - 1 = ni ls.length from ni_s1 _, f_M_bufferBelow_b7, if_neg (ni_nn (by omega))]
    simp only [mI_0, mP_0, mI_4, mP_4, mI_5, mP_5, mI_6, mP_6, mI_20, mP_20, mI_21, mP_21, mI_22, mP_22, mI_23, mP_23, mI_25, mP_25, mI_27, mP_27, mR_1, mG_1, mS_1, mR_2, mG_2, mS_2, mR_3, mG_3, mS_3, mR_7, mG_7, mS_7, mR_8, mG_8, mS_8, mR_9, mG_9, mS_9, mR_10, mG_10, mS_10, mR_11, mG_11, mS_11, mR_12, mG_12, mS_12, mR_13, mG_13, mS_13, mR_14, mG_14, mS_14, mR_15, mG_15, mS_15, mR_16, mG_16, mS_16, mR_17, mG_17, mS_17, mR_18, mG_18, mS_18, mR_19, mG_19, mS_19, mR_24, mG_24, mS_24, mR_26, mG_26, mS_26, mK_8, gS_1, gS_2, gA_1, gA_2, Option.bind_some, Option.bind_none, h1, h2, if_true, f_M_bufferBelow_b27, ni_nn (show ls.length < 2147483648 by omega), if_false, f_M_bufferBelow_b45, f_M_bufferBelow_b46, ni_m1, ih]
    match L, hR with
    | .inl (rm, kp, tg, mq), hR => rw [hR.1.1, if_pos (by decide), if_pos rfl]; rfl
    | .inr (.inl (rm, st)), hR => rw [hR.1.1, if_pos (by decide), if_neg (by decide)]; rfl
    | .inr (.inr (.inl (lf, lm))), hR => rw [hR.1.1, if_neg (by decide)]; rfl
    | .inr (.inr (.inr (.inl (key, cd, cm)))), hR => rw [hR.1.1, if_neg (by decide)]; rfl
    | .inr (.inr (.inr (.inr (e, em, cr, crm)))), hR => rw [hR.1.1, if_neg (by decide)]; rfl
/-- what marking leaves of the reference's rows, from hi on -/
def FM (hi : Nat) (g g' : Mg_t) : Prop := g'.1 = g.1 ∧ (∀ k, k < 7 ∨ 17 < k → g'.2 k = g.2 k) ∧ (∀ k, 7 ≤ k → k ≤ 17 → k ≠ 13 → ∀ i, hi ≤ i → g'.2 k i = g.2 k i) ∧ ∀ j, 64 * hi ≤ j → g'.2 13 j = g.2 13 j
theorem bb_lt {ls : List Ly_t} (hc : cmk ls = true) : bbi ls < ls.length := by
  induction ls with
  | nil => cases hc
  | cons L ls ih =>
    match L, hc with
    | .inl _, hc => simp only [bbi, List.length_cons]; omega
    | .inr (.inl _), hc => cases hc
    | .inr (.inr _), hc => have := ih hc; simp only [bbi, List.length_cons]; omega
theorem M_mk (m : Nat) (h : Hs_t) (lim : Nat) (hlim : lim ≤ 32) (s : Sr_t) (q : Nat) (hq : q ≤ 5) : ∀ (ls : List Ly_t) (g : Mg_t), g.1 6 = ni q → cmk ls = true → RMl g ls → iv_O ls s → ls.length ≤ q → ∃ g1 g' k, (∀ K : Hs_t → Rs_t, bd_V (f_M_forget m (ni (bbi ls)) (g.2 15 (bbi ls)) (MH m g h)) (fun h3 => (fd_A [8] 15 h3 m).bind fun v6 => (as_I h3 v6 (ni (bbi ls)) 0).bind fun h4 => (fd_A [8] 16 h4 m).bind fun v7 => (as_Z h4 v7 (ni (bbi ls)) 1).bind fun h5 => (fd_A [8] 17 h5 m).bind fun v8 => (as_I h5 v8 (ni (bbi ls)) (ni lim)).bind K) = K (MH m g1 h)) ∧ f_M_mark_b87 fu_N m (ni (bbi ls + 1)) (MH m g1 h) = f_M_mark_b87 k m (ni ls.length) (MH m g' h) ∧ fu_N ≤ k + ls.length ∧ RMl g' (tmk lim ls) ∧ FM ls.length g g'
  | [], g, _, hc, _, _, _ => by cases hc
  | L :: ls, g, h6, hc, hR, hv, hL => by
    have hl : ls.length + 1 ≤ q := hL
    have h1 : in_R (ni ls.length) 5 = true := ni_in_t (by omega) (by omega)
    have h2 : (ni ls.length).toNatClampNeg = ls.length := ni_nat (by omega)
    have pas : cmk ls = true → (g.2 11 ls.length = 0 ∨ g.2 11 ls.length = 1) → ∃ g1 g' k, (∀ K : Hs_t → Rs_t, bd_V (f_M_forget m (ni (bbi ls)) (g.2 15 (bbi ls)) (MH m g h)) (fun h3 => (fd_A [8] 15 h3 m).bind fun v6 => (as_I h3 v6 (ni (bbi ls)) 0).bind fun h4 => (fd_A [8] 16 h4 m).bind fun v7 => (as_Z h4 v7 (ni (bbi ls)) 1).bind fun h5 => (fd_A [8] 17 h5 m).bind fun v8 => (as_I h5 v8 (ni (bbi ls)) (ni lim)).bind K) = K (MH m g1 h)) ∧ f_M_mark_b87 fu_N m (ni (bbi ls + 1)) (MH m g1 h) = f_M_mark_b87 k m (ni (ls.length + 1)) (MH m g' h) ∧ fu_N ≤ k + (ls.length + 1) ∧ RMl g' (tmk lim ls) ∧ FM (ls.length + 1) g g' ∧ g'.2 10 ls.length = g.2 9 ls.length ∧ g'.2 12 ls.length = g.2 11 ls.length ∧ (∀ k, 7 ≤ k → k ≤ 17 → k ≠ 13 → k ≠ 10 → k ≠ 12 → g'.2 k ls.length = g.2 k ls.length) := by
      intro hc2 hz
      obtain ⟨g1, g', k, p1, p2, p3, p4, p5⟩ := M_mk m h lim hlim s q hq ls g h6 hc2 hR.2 hv.2.2 (by omega)
      have e9 := p5.2.2.1 9 (by omega) (by omega) (by omega) ls.length (Nat.le_refl _)
      have e11 := p5.2.2.1 11 (by omega) (by omega) (by omega) ls.length (Nat.le_refl _)
      have e6 : g'.1 6 = ni q := by rw [p5.1]; exact h6
      obtain ⟨k, rfl⟩ : ∃ k0, k = k0 + 1 := ⟨k - 1, by simp only [fu_N] at p3; omega⟩
      refine ⟨g1, gA (gA g' 10 (upd (g'.2 10) ls.length (g.2 9 ls.length))) 12 (upd (g'.2 12) ls.length (g.2 11 ls.length)), k, p1, ?_, ?_, ?_, ⟨p5.1, fun k hk => ?_, fun k k1 k2 k3 i hi => ?_, fun j hj => ?_⟩, ?_, ?_, fun k k1 k2 k3 k4 k5 => ?_⟩
      · rw [p2, f_M_mark_b87]
        simp only [mI_0, mP_0, mI_4, mP_4, mI_5, mP_5, mI_6, mP_6, mI_20, mP_20, mI_21, mP_21, mI_22, mP_22, mI_23, mP_23, mI_25, mP_25, mI_27, mP_27, mR_1, mG_1, mS_1, mR_2, mG_2, mS_2, mR_3, mG_3, mS_3, mR_7, mG_7, mS_7, mR_8, mG_8, mS_8, mR_9, mG_9, mS_9, mR_10, mG_10, mS_10, mR_11, mG_11, mS_11, mR_12, mG_12, mS_12, mR_13, mG_13, mS_13, mR_14, mG_14, mS_14, mR_15, mG_15, mS_15, mR_16, mG_16, mS_16, mR_17, mG_17, mS_17, mR_18, mG_18, mS_18, mR_19, mG_19, mS_19, mR_24, mG_24, mS_24, mR_26, mG_26, mS_26, mK_8, gS_1, gS_2, gA_1, gA_2, Option.bind_some, Option.bind_none, e6]
        rw [if_neg (niNL (by omega) (by omega) (by omega))]
        simp only [mI_0, mP_0, mI_4, mP_4, mI_5, mP_5, mI_6, mP_6, mI_20, mP_20, mI_21, mP_21, mI_22, mP_22, mI_23, mP_23, mI_25, mP_25, mI_27, mP_27, mR_1, mG_1, mS_1, mR_2, mG_2, mS_2, mR_3, mG_3, mS_3, mR_7, mG_7, mS_7, mR_8, mG_8, mS_8, mR_9, mG_9, mS_9, mR_10, mG_10, mS_10, mR_11, mG_11, mS_11, mR_12, mG_12, mS_12, mR_13, mG_13, mS_13, mR_14, mG_14, mS_14, mR_15, mG_15, mS_15, mR_16, mG_16, mS_16, mR_17, mG_17, mS_17, mR_18, mG_18, mS_18, mR_19, mG_19, mS_19, mR_24, mG_24, mS_24, mR_26, mG_26, mS_26, mK_8, gS_1, gS_2, gA_1, gA_2, Option.bind_some, Option.bind_none, h1, h2, if_true, Option.bind_some, e9, e11, z_01 hz, Bool.and_self, ni_p1, Nat.reduceEqDiff, if_false]
      · simp only [fu_N] at *; omega
      · refine RMl.idx (g := g') (s := s) (n := ls.length) (fun k k1 k2 k3 i hi => ?_) (fun j hj => by simp only [gA_2, eq_self, if_true, if_false, ite_true, ite_false, bd_I, bd_V, bd_A, bd_L, re_I, re_V, Bool.true_and, Bool.and_true, reduceIte, reduceCtorEq, ↓reduceIte, Nat.reduceEqDiff]) ?_ (Nat.le_of_eq (tmk_len lim ls)) p4
        · simp only [gA_2]
          by_cases k12 : k = 12
          · subst k12; simp only [if_true, upd]; rw [if_neg (by omega)]
          · rw [if_neg k12]
            by_cases k10 : k = 10
            · subst k10; simp only [if_true, upd]; rw [if_neg (by omega)]
            · rw [if_neg k10]
        · exact (tmk_iv lim hlim s ls hv.2.2).1
      · simp only [gA_2]; rw [if_neg (by omega), if_neg (by omega)]; exact p5.2.1 k hk
      · simp only [gA_2]
        have := p5.2.2.1 k k1 k2 k3 i (by omega)
        by_cases k12 : k = 12
        · subst k12; simp only [if_true, upd]; rw [if_neg (by omega)]; exact this
        · rw [if_neg k12]
          by_cases k10 : k = 10
          · subst k10; simp only [if_true, upd]; rw [if_neg (by omega)]; exact this
          · rw [if_neg k10]; exact this
      · exact p5.2.2.2 j (by omega)
      · simp only [gA_2, upd, eq_self, if_true, if_false, ite_true, ite_false, bd_I, bd_V, bd_A, bd_L, re_I, re_V, Bool.true_and, Bool.and_true, reduceIte, reduceCtorEq, ↓reduceIte, Nat.reduceEqDiff]
      · simp only [gA_2, upd, eq_self, if_true, if_false, ite_true, ite_false, bd_I, bd_V, bd_A, bd_L, re_I, re_V, Bool.true_and, Bool.and_true, reduceIte, reduceCtorEq, ↓reduceIte, Nat.reduceEqDiff]
      · simp only [gA_2]; rw [if_neg k5, if_neg k4]; exact p5.2.2.1 k k1 k2 k3 _ (Nat.le_refl _)
    match L, hc, hR, hv, pas with
    | .inl (rm, kp, tg, mq), hc, hR, hv, pas =>
      obtain ⟨a1, a2, a3, a4, a5, a6, a7⟩ := hR.1
      obtain ⟨o1, o2, o3, o4, o5, o6⟩ := hv.1
      have hfo := M_forget m h ls.length kp.length tg.length (by omega) (by omega) g a3
      refine ⟨gA (gA (gA (gA (gA g 14 (upd (g.2 14) ls.length (ni tg.length))) 13 (va_cpy (g.2 13) (g.2 13) (64 * ls.length + kp.length) (64 * ls.length) tg.length)) 15 (upd (g.2 15) ls.length 0)) 16 (upd (g.2 16) ls.length 1)) 17 (upd (g.2 17) ls.length (ni lim)), _, fu_N, fun K => ?_, rfl, Nat.le_add_right _ _, ⟨?_, ?_⟩, rfl, fun k hk => ?_, fun k k1 k2 k3 i hi => ?_, fun j hj => ?_⟩
      · simp only [show bbi (.inl (rm, kp, tg, mq) :: ls) = ls.length from rfl, a4, hfo, bd_V, re_V, mI_0, mP_0, mI_4, mP_4, mI_5, mP_5, mI_6, mP_6, mI_20, mP_20, mI_21, mP_21, mI_22, mP_22, mI_23, mP_23, mI_25, mP_25, mI_27, mP_27, mR_1, mG_1, mS_1, mR_2, mG_2, mS_2, mR_3, mG_3, mS_3, mR_7, mG_7, mS_7, mR_8, mG_8, mS_8, mR_9, mG_9, mS_9, mR_10, mG_10, mS_10, mR_11, mG_11, mS_11, mR_12, mG_12, mS_12, mR_13, mG_13, mS_13, mR_14, mG_14, mS_14, mR_15, mG_15, mS_15, mR_16, mG_16, mS_16, mR_17, mG_17, mS_17, mR_18, mG_18, mS_18, mR_19, mG_19, mS_19, mR_24, mG_24, mS_24, mR_26, mG_26, mS_26, mK_8, gS_1, gS_2, gA_1, gA_2, Option.bind_some, Option.bind_none, h1, h2, if_true, show is_Z 1 = true by decide, Bool.and_self, Nat.reduceEqDiff, if_false]
      · refine ⟨a1, a2, by simp only [gA_2, upd, eq_self, if_true, if_false, ite_true, ite_false, bd_I, bd_V, bd_A, bd_L, re_I, re_V, Bool.true_and, Bool.and_true, reduceIte, reduceCtorEq, ↓reduceIte, Nat.reduceEqDiff, List.length_nil, Nat.zero_add], by simp only [gA_2, upd, eq_self, if_true, if_false, ite_true, ite_false, bd_I, bd_V, bd_A, bd_L, re_I, re_V, Bool.true_and, Bool.and_true, reduceIte, reduceCtorEq, ↓reduceIte, Nat.reduceEqDiff]; rfl, rfl, ?_, by simp only [gA_2, upd, eq_self, if_true, if_false, ite_true, ite_false, bd_I, bd_V, bd_A, bd_L, re_I, re_V, Bool.true_and, Bool.and_true, reduceIte, reduceCtorEq, ↓reduceIte, Nat.reduceEqDiff], by simp only [gA_2, upd, eq_self, if_true, if_false, ite_true, ite_false, bd_I, bd_V, bd_A, bd_L, re_I, re_V, Bool.true_and, Bool.and_true, reduceIte, reduceCtorEq, ↓reduceIte, Nat.reduceEqDiff]⟩
        show sl (va_cpy (g.2 13) (g.2 13) (64 * ls.length + kp.length) (64 * ls.length) tg.length) (64 * ls.length) tg.length = tg
        rw [sl_cpy]; exact a6
      · refine RMl.idx (g := g) (s := s) (n := ls.length) (fun k k1 k2 k3 i hi => ?_) (fun j hj => ?_) hv.2.2 (Nat.le_refl _) hR.2
        · have hne : ¬ i = ls.length := by omega
          simp only [gA_2]
          (repeat' split) <;> (first | rfl | (exfalso; omega) | (rename_i hk; subst hk; simp only [upd, hne, if_false]))
        · show va_cpy (g.2 13) (g.2 13) (64 * ls.length + kp.length) (64 * ls.length) tg.length j = _
          exact cpy_out _ _ _ _ _ _ (by omega)
      · simp only [gA_2]
        (repeat' split) <;> (first | rfl | (exfalso; omega))
      · have hne : ¬ i = ls.length := by simp only [List.length_cons] at hi; omega
        simp only [gA_2]
        (repeat' split) <;> (first | rfl | (exfalso; omega) | (rename_i hk; subst hk; simp only [upd, hne, if_false]))
      · show va_cpy (g.2 13) (g.2 13) (64 * ls.length + kp.length) (64 * ls.length) tg.length j = _
        simp only [List.length_cons] at hj
        exact cpy_out _ _ _ _ _ _ (by omega)
    | .inr (.inl (rm, st)), hc, hR, hv, pas => cases hc
    | .inr (.inr (.inl (lf, lm))), hc, hR, hv, pas =>
      have r := hR.1
      obtain ⟨g1, g', k, p1, p2, p3, p4, p5, p6, p7, p8⟩ := pas hc r.2.2.2.1
      refine ⟨g1, g', k, p1, p2, p3, ⟨?_, p4⟩, p5⟩
      rw [tmk_len]
      have e11 := p8 11 (by omega) (by omega) (by omega) (by omega) (by omega)
      exact ⟨by rw [p8 7 (by omega) (by omega) (by omega) (by omega) (by omega)]; exact r.1, by rw [p8 9 (by omega) (by omega) (by omega) (by omega) (by omega)]; exact r.2.1, by rw [p6]; exact r.2.1, by rw [e11]; exact r.2.2.2.1, by rw [p7]; exact r.2.2.2.1⟩
    | .inr (.inr (.inr (.inl (key, cd, cm)))), hc, hR, hv, pas =>
      have r := hR.1
      obtain ⟨g1, g', k, p1, p2, p3, p4, p5, p6, p7, p8⟩ := pas hc r.2.2.2.2.1
      refine ⟨g1, g', k, p1, p2, p3, ⟨?_, p4⟩, p5⟩
      rw [tmk_len]
      have e11 := p8 11 (by omega) (by omega) (by omega) (by omega) (by omega)
      exact ⟨by rw [p8 7 (by omega) (by omega) (by omega) (by omega) (by omega)]; exact r.1, by rw [p8 8 (by omega) (by omega) (by omega) (by omega) (by omega)]; exact r.2.1, by rw [p8 9 (by omega) (by omega) (by omega) (by omega) (by omega)]; exact r.2.2.1, by rw [p6]; exact r.2.2.1, by rw [e11]; exact r.2.2.2.2.1, by rw [p7]; exact r.2.2.2.2.1⟩
    | .inr (.inr (.inr (.inr (e, em, cr, crm)))), hc, hR, hv, pas =>
      have r := hR.1
      obtain ⟨g1, g', k, p1, p2, p3, p4, p5, p6, p7, p8⟩ := pas hc (by rw [r.2.2.2.1]; exact hv.1.1)
      refine ⟨g1, g', k, p1, p2, p3, ⟨?_, p4⟩, p5⟩
      rw [tmk_len]
      exact ⟨by rw [p8 7 (by omega) (by omega) (by omega) (by omega) (by omega)]; exact r.1, by rw [p8 9 (by omega) (by omega) (by omega) (by omega) (by omega)]; exact r.2.1, by rw [p6]; exact r.2.1, by rw [p8 11 (by omega) (by omega) (by omega) (by omega) (by omega)]; exact r.2.2.2.1, by rw [p7]; exact r.2.2.2.1⟩
theorem M_mark {m : Nat} {h : Hs_t} {g : Mg_t} {w : Wd_t} (hR : RWw g w) (hv : wv_O w) (x : Int32) : MO m h (f_M_mark m x (MH m g h)) (op_mark w x).1 (fun t => if t = 10 then 1 else if t = 9 then 2 else 3) none (op_mark w x).2 := by
  obtain ⟨ls, s, lv, lvm, cl, bag, lt⟩ := w
  have hR : RW g ls s lv lvm cl bag lt := hR
  obtain ⟨v1, v2, v3, v4, v5, v6, v7, v8⟩ := hv
  have v2 : ls.length ≤ 5 := v2
  have e21 : g.1 21 = cl := hR.2.2.2.1
  have e6 := hR.2.2.1
  have hbb := M_bb m h g ls (fu_N - ls.length - 1) hR.1 v2
  rw [show fu_N - ls.length - 1 + ls.length + 1 = fu_N by simp only [fu_N]; omega] at hbb
  have hb2 : f_M_bufferBelow m (MH m g h) = re_I (if cmk ls then ni (bbi ls) else -1) (MH m g h) := by
    rw [f_M_bufferBelow]; simp only [mI_0, mP_0, mI_4, mP_4, mI_5, mP_5, mI_6, mP_6, mI_20, mP_20, mI_21, mP_21, mI_22, mP_22, mI_23, mP_23, mI_25, mP_25, mI_27, mP_27, mR_1, mG_1, mS_1, mR_2, mG_2, mS_2, mR_3, mG_3, mS_3, mR_7, mG_7, mS_7, mR_8, mG_8, mS_8, mR_9, mG_9, mS_9, mR_10, mG_10, mS_10, mR_11, mG_11, mS_11, mR_12, mG_12, mS_12, mR_13, mG_13, mS_13, mR_14, mG_14, mS_14, mR_15, mG_15, mS_15, mR_16, mG_16, mS_16, mR_17, mG_17, mS_17, mR_18, mG_18, mS_18, mR_19, mG_19, mS_19, mR_24, mG_24, mS_24, mR_26, mG_26, mS_26, mK_8, gS_1, gS_2, gA_1, gA_2, Option.bind_some, Option.bind_none, e6]; exact hbb
  rw [f_M_mark, hb2]
  simp only [mI_0, mP_0, mI_4, mP_4, mI_5, mP_5, mI_6, mP_6, mI_20, mP_20, mI_21, mP_21, mI_22, mP_22, mI_23, mP_23, mI_25, mP_25, mI_27, mP_27, mR_1, mG_1, mS_1, mR_2, mG_2, mS_2, mR_3, mG_3, mS_3, mR_7, mG_7, mS_7, mR_8, mG_8, mS_8, mR_9, mG_9, mS_9, mR_10, mG_10, mS_10, mR_11, mG_11, mS_11, mR_12, mG_12, mS_12, mR_13, mG_13, mS_13, mR_14, mG_14, mS_14, mR_15, mG_15, mS_15, mR_16, mG_16, mS_16, mR_17, mG_17, mS_17, mR_18, mG_18, mS_18, mR_19, mG_19, mS_19, mR_24, mG_24, mS_24, mR_26, mG_26, mS_26, mK_8, gS_1, gS_2, gA_1, gA_2, Option.bind_some, Option.bind_none, eq_self, if_true, if_false, ite_true, ite_false, bd_I, bd_V, bd_A, bd_L, re_I, re_V, Bool.true_and, Bool.and_true, reduceIte, reduceCtorEq, ↓reduceIte, Nat.reduceEqDiff, e21, op_mark]
  by_cases hc : cl = 0
  · simp only [hc, if_true]
    subst hc
    by_cases x1 : x < 0
    · simp only [x1, if_true, f_M_mark_b27, f_M_mark_b40, mI_0, mP_0, mI_4, mP_4, mI_5, mP_5, mI_6, mP_6, mI_20, mP_20, mI_21, mP_21, mI_22, mP_22, mI_23, mP_23, mI_25, mP_25, mI_27, mP_27, mR_1, mG_1, mS_1, mR_2, mG_2, mS_2, mR_3, mG_3, mS_3, mR_7, mG_7, mS_7, mR_8, mG_8, mS_8, mR_9, mG_9, mS_9, mR_10, mG_10, mS_10, mR_11, mG_11, mS_11, mR_12, mG_12, mS_12, mR_13, mG_13, mS_13, mR_14, mG_14, mS_14, mR_15, mG_15, mS_15, mR_16, mG_16, mS_16, mR_17, mG_17, mS_17, mR_18, mG_18, mS_18, mR_19, mG_19, mS_19, mR_24, mG_24, mS_24, mR_26, mG_26, mS_26, mK_8, gS_1, gS_2, gA_1, gA_2, Option.bind_some, Option.bind_none, eq_self, if_true, if_false, ite_true, ite_false, bd_I, bd_V, bd_A, bd_L, re_I, re_V, Bool.true_and, Bool.and_true, reduceIte, reduceCtorEq, ↓reduceIte, Nat.reduceEqDiff, show ¬ ((2 : Int32) ≤ 0) by decide]
      exact ⟨_, rfl, hR.cd 2, rfl⟩
    · simp only [x1, if_false]
      by_cases x2 : x ≤ 32
      · simp only [x2, if_true]
        obtain ⟨n, rfl, n1, n2⟩ := rg (lo := 0) (hi := 32) x1 x2 (by omega) (by omega)
        rw [ni_nat (by omega)]
        cases hcc : cmk ls with
        | false =>
          simp only [Bool.false_eq_true, if_false, show ¬ ((0 : Int32) ≤ -1) by decide, f_M_mark_b40, mI_0, mP_0, mI_4, mP_4, mI_5, mP_5, mI_6, mP_6, mI_20, mP_20, mI_21, mP_21, mI_22, mP_22, mI_23, mP_23, mI_25, mP_25, mI_27, mP_27, mR_1, mG_1, mS_1, mR_2, mG_2, mS_2, mR_3, mG_3, mS_3, mR_7, mG_7, mS_7, mR_8, mG_8, mS_8, mR_9, mG_9, mS_9, mR_10, mG_10, mS_10, mR_11, mG_11, mS_11, mR_12, mG_12, mS_12, mR_13, mG_13, mS_13, mR_14, mG_14, mS_14, mR_15, mG_15, mS_15, mR_16, mG_16, mS_16, mR_17, mG_17, mS_17, mR_18, mG_18, mS_18, mR_19, mG_19, mS_19, mR_24, mG_24, mS_24, mR_26, mG_26, mS_26, mK_8, gS_1, gS_2, gA_1, gA_2, Option.bind_some, Option.bind_none, eq_self, if_true, if_false, ite_true, ite_false, bd_I, bd_V, bd_A, bd_L, re_I, re_V, Bool.true_and, Bool.and_true, reduceIte, reduceCtorEq, ↓reduceIte, Nat.reduceEqDiff, show ¬ ((3 : Int32) ≤ 0) by decide]
          exact ⟨_, rfl, hR.cd 3, rfl⟩
        | true =>
          have hbl := bb_lt hcc
          have h1 : in_R (ni (bbi ls)) 5 = true := ni_in_t (by omega) (by omega)
          have h2 : (ni (bbi ls)).toNatClampNeg = bbi ls := ni_nat (by omega)
          have hR0 := hR.cd 0
          obtain ⟨g1, g', k, p1, p2, p3, p4, p5⟩ := M_mk m h n n2 s ls.length v2 ls (gS g 0 0) e6 hcc hR0.1 v1 (Nat.le_refl _)
          simp only [if_true]
          rw [if_pos (show (0 : Int32) ≤ ni (bbi ls) from niL (a := 0) (by omega) (by omega) (by omega)), f_M_mark_b40]
          simp only [mI_0, mP_0, mI_4, mP_4, mI_5, mP_5, mI_6, mP_6, mI_20, mP_20, mI_21, mP_21, mI_22, mP_22, mI_23, mP_23, mI_25, mP_25, mI_27, mP_27, mR_1, mG_1, mS_1, mR_2, mG_2, mS_2, mR_3, mG_3, mS_3, mR_7, mG_7, mS_7, mR_8, mG_8, mS_8, mR_9, mG_9, mS_9, mR_10, mG_10, mS_10, mR_11, mG_11, mS_11, mR_12, mG_12, mS_12, mR_13, mG_13, mS_13, mR_14, mG_14, mS_14, mR_15, mG_15, mS_15, mR_16, mG_16, mS_16, mR_17, mG_17, mS_17, mR_18, mG_18, mS_18, mR_19, mG_19, mS_19, mR_24, mG_24, mS_24, mR_26, mG_26, mS_26, mK_8, gS_1, gS_2, gA_1, gA_2, Option.bind_some, Option.bind_none, eq_self, if_true, if_false, ite_true, ite_false, bd_I, bd_V, bd_A, bd_L, re_I, re_V, Bool.true_and, Bool.and_true, reduceIte, reduceCtorEq, ↓reduceIte, Nat.reduceEqDiff, show ((0 : Int32) ≤ 0) = True by decide, h1, h2]
          have p1' := p1 (fun h6 => f_M_mark_b87 fu_N m (ni (bbi ls) + 1) h6)
          simp only [bd_V, gS_2] at p1'
          rw [p1', ni_p1, p2, show k = (k - 1) + 1 by simp only [fu_N] at p3; omega, f_M_mark_b87]
          have e6' : g'.1 6 = ni ls.length := by rw [p5.1]; exact e6
          have e22 : g'.1 22 = lv := by rw [p5.1]; exact hR.2.2.2.2.1
          simp only [mI_0, mP_0, mI_4, mP_4, mI_5, mP_5, mI_6, mP_6, mI_20, mP_20, mI_21, mP_21, mI_22, mP_22, mI_23, mP_23, mI_25, mP_25, mI_27, mP_27, mR_1, mG_1, mS_1, mR_2, mG_2, mS_2, mR_3, mG_3, mS_3, mR_7, mG_7, mS_7, mR_8, mG_8, mS_8, mR_9, mG_9, mS_9, mR_10, mG_10, mS_10, mR_11, mG_11, mS_11, mR_12, mG_12, mS_12, mR_13, mG_13, mS_13, mR_14, mG_14, mS_14, mR_15, mG_15, mS_15, mR_16, mG_16, mS_16, mR_17, mG_17, mS_17, mR_18, mG_18, mS_18, mR_19, mG_19, mS_19, mR_24, mG_24, mS_24, mR_26, mG_26, mS_26, mK_8, gS_1, gS_2, gA_1, gA_2, Option.bind_some, Option.bind_none, e6', e22, z_01 v3, eq_self, if_true, if_false, ite_true, ite_false, bd_I, bd_V, bd_A, bd_L, re_I, re_V, Bool.true_and, Bool.and_true, reduceIte, reduceCtorEq, ↓reduceIte, Nat.reduceEqDiff]
          rw [if_pos (niL (by omega) (by omega) (Nat.le_refl _))]
          obtain ⟨b1, b2, b3, b4, b5, b6, b7, b8, b9, b10⟩ := hR0
          refine ⟨_, rfl, ⟨RMl.congr (g := g') (g' := gS g' 23 lv) (fun k _ _ => rfl) p4, ?_, by show g'.1 6 = _; rw [e6', tmk_len], by show g'.1 21 = _; rw [p5.1]; exact b4, e22, rfl, by show g'.1 25 = _; rw [p5.1]; exact b7, by show sl (g'.2 24) 0 bag.length = bag; rw [p5.2.1 24 (by omega)]; exact b8, by show g'.1 27 = _; rw [p5.1]; exact b9, by show sl (g'.2 26) 0 lt.length = lt; rw [p5.2.1 26 (by omega)]; exact b10⟩, by show g'.1 0 = 0; rw [p5.1]; rfl⟩
          refine ⟨by show g'.2 1 = _; rw [p5.2.1 1 (by omega)]; exact b2.1, fun j hj => by show g'.2 2 j = _; rw [p5.2.1 2 (by omega)]; exact b2.2.1 j hj, by show g'.2 3 = _; rw [p5.2.1 3 (by omega)]; exact b2.2.2.1, by show g'.1 4 = _; rw [p5.1]; exact b2.2.2.2.1, by show g'.1 5 = _; rw [p5.1]; exact b2.2.2.2.2⟩
      · simp only [x2, if_false, f_M_mark_b27, f_M_mark_b40, mI_0, mP_0, mI_4, mP_4, mI_5, mP_5, mI_6, mP_6, mI_20, mP_20, mI_21, mP_21, mI_22, mP_22, mI_23, mP_23, mI_25, mP_25, mI_27, mP_27, mR_1, mG_1, mS_1, mR_2, mG_2, mS_2, mR_3, mG_3, mS_3, mR_7, mG_7, mS_7, mR_8, mG_8, mS_8, mR_9, mG_9, mS_9, mR_10, mG_10, mS_10, mR_11, mG_11, mS_11, mR_12, mG_12, mS_12, mR_13, mG_13, mS_13, mR_14, mG_14, mS_14, mR_15, mG_15, mS_15, mR_16, mG_16, mS_16, mR_17, mG_17, mS_17, mR_18, mG_18, mS_18, mR_19, mG_19, mS_19, mR_24, mG_24, mS_24, mR_26, mG_26, mS_26, mK_8, gS_1, gS_2, gA_1, gA_2, Option.bind_some, Option.bind_none, eq_self, if_true, if_false, ite_true, ite_false, bd_I, bd_V, bd_A, bd_L, re_I, re_V, Bool.true_and, Bool.and_true, reduceIte, reduceCtorEq, ↓reduceIte, Nat.reduceEqDiff, show ¬ ((2 : Int32) ≤ 0) by decide]
        exact ⟨_, rfl, hR.cd 2, rfl⟩
  · simp only [hc, if_false, f_M_mark_b40, mI_0, mP_0, mI_4, mP_4, mI_5, mP_5, mI_6, mP_6, mI_20, mP_20, mI_21, mP_21, mI_22, mP_22, mI_23, mP_23, mI_25, mP_25, mI_27, mP_27, mR_1, mG_1, mS_1, mR_2, mG_2, mS_2, mR_3, mG_3, mS_3, mR_7, mG_7, mS_7, mR_8, mG_8, mS_8, mR_9, mG_9, mS_9, mR_10, mG_10, mS_10, mR_11, mG_11, mS_11, mR_12, mG_12, mS_12, mR_13, mG_13, mS_13, mR_14, mG_14, mS_14, mR_15, mG_15, mS_15, mR_16, mG_16, mS_16, mR_17, mG_17, mS_17, mR_18, mG_18, mS_18, mR_19, mG_19, mS_19, mR_24, mG_24, mS_24, mR_26, mG_26, mS_26, mK_8, gS_1, gS_2, gA_1, gA_2, Option.bind_some, Option.bind_none, eq_self, if_true, if_false, ite_true, ite_false, bd_I, bd_V, bd_A, bd_L, re_I, re_V, Bool.true_and, Bool.and_true, reduceIte, reduceCtorEq, ↓reduceIte, Nat.reduceEqDiff, show ¬ ((1 : Int32) ≤ 0) by decide]
    exact ⟨_, rfl, hR.cd 1, rfl⟩
