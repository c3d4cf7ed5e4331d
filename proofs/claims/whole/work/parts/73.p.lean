/-! The start. -/
theorem st_g {ts : List Nat} {t a k : Nat} {fs : List Value} {h : Hs_t} {c : Ce_t} (ha : h.2 a = some (ce_O t fs)) (hl : a < h.1) (hts : ts.contains t = true) (hk : k < fs.length) : ∃ h', (∀ K : Hs_t → Rs_t, ((some (hp_N h c)).bind fun h1 => (pt_V ts k h1 a (.ref h.1)).bind K) = K h') ∧ h'.1 = h.1 + 1 ∧ h'.2 a = some (ce_O t (fs.set k (.ref h.1))) ∧ h'.2 h.1 = some c ∧ ∀ q, q ≠ a → q ≠ h.1 → h'.2 q = h.2 q := by
  refine ⟨hp_S (hp_N h c) a (ce_O t (fs.set k (.ref h.1))), fun K => ?_, rfl, hp_at _ _ _, by rw [hp_ne _ _ _ _ (by omega), hn_at], fun q q1 q2 => by rw [hp_ne _ _ _ _ q1, hn_ne _ _ _ q2]⟩
  simp only [Option.bind_some, pt_V, hn_ne h c a (by omega), ha, hts, hk, decide_true, Bool.and_self, if_true]
theorem nw_I5 (h : Hs_t) : nw_I 5 5 h = some (hp_N h (ce_I 5 (fun _ => 0))) := by
  simp only [nw_I, show ¬ ((5 : Int32) < 0) by decide, show (5 : Int32).toNatClampNeg = 5 by decide, decide_false, Bool.not_false, Nat.le_refl, decide_true, Bool.and_self, if_true]
theorem nw_I120 (h : Hs_t) : nw_I 120 120 h = some (hp_N h (ce_I 120 (fun _ => 0))) := by
  simp only [nw_I, show ¬ ((120 : Int32) < 0) by decide, show (120 : Int32).toNatClampNeg = 120 by decide, decide_false, Bool.not_false, Nat.le_refl, decide_true, Bool.and_self, if_true]
theorem nw_I320 (h : Hs_t) : nw_I 320 320 h = some (hp_N h (ce_I 320 (fun _ => 0))) := by
  simp only [nw_I, show ¬ ((320 : Int32) < 0) by decide, show (320 : Int32).toNatClampNeg = 320 by decide, decide_false, Bool.not_false, Nat.le_refl, decide_true, Bool.and_self, if_true]
theorem nw_I600 (h : Hs_t) : nw_I 600 600 h = some (hp_N h (ce_I 600 (fun _ => 0))) := by
  simp only [nw_I, show ¬ ((600 : Int32) < 0) by decide, show (600 : Int32).toNatClampNeg = 600 by decide, decide_false, Bool.not_false, Nat.le_refl, decide_true, Bool.and_self, if_true]
theorem nw_Z5 (h : Hs_t) : nw_Z 5 5 h = some (hp_N h (ce_Z 5 (fun _ => 0))) := by
  simp only [nw_Z, show ¬ ((5 : Int32) < 0) by decide, show (5 : Int32).toNatClampNeg = 5 by decide, decide_false, Bool.not_false, Nat.le_refl, decide_true, Bool.and_self, if_true]
theorem nw_Z121 (h : Hs_t) : nw_Z 121 121 h = some (hp_N h (ce_Z 121 (fun _ => 0))) := by
  simp only [nw_Z, show ¬ ((121 : Int32) < 0) by decide, show (121 : Int32).toNatClampNeg = 121 by decide, decide_false, Bool.not_false, Nat.le_refl, decide_true, Bool.and_self, if_true]
theorem lt_1 (m j : Nat) : m < m + (j + 1) := by omega
theorem ne_3 {q m : Nat} (h : q < m) (j : Nat) : q ≠ m + j := by omega
theorem ne_0 (m : Nat) : m + 0 ≠ m + 2 := by omega
theorem ne_1 (m j : Nat) : m + (j + 1) ≠ m := by omega
theorem ne_2 (m j q : Nat) (h : j + 1 ≠ q) : m + (j + 1) ≠ m + q := by omega
def g_0 : Mg_t := (fun _ => 0, fun k => if k = 2 then upd (fun _ => 0) 0 1 else fun _ => 0)
theorem MH_of {m : Nat} {g : Mg_t} {h : Hs_t} (hc : ∀ j, j < 19 → h.2 (m + j) = some (mc m g j)) : MH m g h = h := by
  obtain ⟨n, f⟩ := h
  simp only [MH, Prod.mk.injEq, true_and]
  funext q
  by_cases hq : m ≤ q ∧ q < m + 19
  · rw [if_pos hq, ← hc (q - m) (by omega)]
    show f (m + (q - m)) = f q
    rw [show m + (q - m) = q by omega]
  · rw [if_neg hq]
theorem mc_0 (m : Nat) : mc m g_0 0 = ce_O 8 [.int 0, .ref (m + 1), .ref (m + 2), .ref (m + 3), .int 0, .int 0, .int 0, .ref (m + 4), .ref (m + 5), .ref (m + 6), .ref (m + 7), .ref (m + 8), .ref (m + 9), .ref (m + 10), .ref (m + 11), .ref (m + 12), .ref (m + 13), .ref (m + 14), .ref (m + 15), .ref (m + 16), .int 0, .int 0, .int 0, .int 0, .ref (m + 17), .int 0, .ref (m + 18), .int 0] := rfl
theorem mc_1 (m : Nat) : mc m g_0 1 = ce_I 120 (fun _ => 0) := rfl
theorem mc_2 (m : Nat) : mc m g_0 2 = ce_Z 121 (upd (fun _ => 0) 0 1) := rfl
theorem mc_3 (m : Nat) : mc m g_0 3 = ce_Z 121 (fun _ => 0) := rfl
theorem mc_4 (m : Nat) : mc m g_0 4 = ce_I 5 (fun _ => 0) := rfl
theorem mc_5 (m : Nat) : mc m g_0 5 = ce_I 5 (fun _ => 0) := rfl
theorem mc_6 (m : Nat) : mc m g_0 6 = ce_I 5 (fun _ => 0) := rfl
theorem mc_7 (m : Nat) : mc m g_0 7 = ce_I 5 (fun _ => 0) := rfl
theorem mc_8 (m : Nat) : mc m g_0 8 = ce_Z 5 (fun _ => 0) := rfl
theorem mc_9 (m : Nat) : mc m g_0 9 = ce_Z 5 (fun _ => 0) := rfl
theorem mc_10 (m : Nat) : mc m g_0 10 = ce_I 320 (fun _ => 0) := rfl
theorem mc_11 (m : Nat) : mc m g_0 11 = ce_I 5 (fun _ => 0) := rfl
theorem mc_12 (m : Nat) : mc m g_0 12 = ce_I 5 (fun _ => 0) := rfl
theorem mc_13 (m : Nat) : mc m g_0 13 = ce_Z 5 (fun _ => 0) := rfl
theorem mc_14 (m : Nat) : mc m g_0 14 = ce_I 5 (fun _ => 0) := rfl
theorem mc_15 (m : Nat) : mc m g_0 15 = ce_I 5 (fun _ => 0) := rfl
theorem mc_16 (m : Nat) : mc m g_0 16 = ce_I 120 (fun _ => 0) := rfl
theorem mc_17 (m : Nat) : mc m g_0 17 = ce_I 600 (fun _ => 0) := rfl
theorem mc_18 (m : Nat) : mc m g_0 18 = ce_I 120 (fun _ => 0) := rfl
theorem MH_of2 {m : Nat} {h : Hs_t} (H0 : h.2 m = some (ce_O 8 [.int 0, .ref (m + 1), .ref (m + 2), .ref (m + 3), .int 0, .int 0, .int 0, .ref (m + 4), .ref (m + 5), .ref (m + 6), .ref (m + 7), .ref (m + 8), .ref (m + 9), .ref (m + 10), .ref (m + 11), .ref (m + 12), .ref (m + 13), .ref (m + 14), .ref (m + 15), .ref (m + 16), .int 0, .int 0, .int 0, .int 0, .ref (m + 17), .int 0, .ref (m + 18), .int 0])) (H1 : h.2 (m + 1) = some (ce_I 120 (fun _ => 0))) (H2 : h.2 (m + 2) = some (ce_Z 121 (upd (fun _ => 0) 0 1))) (H3 : h.2 (m + 3) = some (ce_Z 121 (fun _ => 0))) (H4 : h.2 (m + 4) = some (ce_I 5 (fun _ => 0))) (H5 : h.2 (m + 5) = some (ce_I 5 (fun _ => 0))) (H6 : h.2 (m + 6) = some (ce_I 5 (fun _ => 0))) (H7 : h.2 (m + 7) = some (ce_I 5 (fun _ => 0))) (H8 : h.2 (m + 8) = some (ce_Z 5 (fun _ => 0))) (H9 : h.2 (m + 9) = some (ce_Z 5 (fun _ => 0))) (H10 : h.2 (m + 10) = some (ce_I 320 (fun _ => 0))) (H11 : h.2 (m + 11) = some (ce_I 5 (fun _ => 0))) (H12 : h.2 (m + 12) = some (ce_I 5 (fun _ => 0))) (H13 : h.2 (m + 13) = some (ce_Z 5 (fun _ => 0))) (H14 : h.2 (m + 14) = some (ce_I 5 (fun _ => 0))) (H15 : h.2 (m + 15) = some (ce_I 5 (fun _ => 0))) (H16 : h.2 (m + 16) = some (ce_I 120 (fun _ => 0))) (H17 : h.2 (m + 17) = some (ce_I 600 (fun _ => 0))) (H18 : h.2 (m + 18) = some (ce_I 120 (fun _ => 0))) : MH m g_0 h = h := by
  refine MH_of fun j hj => ?_
  match j, hj with
  | 0, _ => rw [mc_0]; exact H0
  | 1, _ => rw [mc_1]; exact H1
  | 2, _ => rw [mc_2]; exact H2
  | 3, _ => rw [mc_3]; exact H3
  | 4, _ => rw [mc_4]; exact H4
  | 5, _ => rw [mc_5]; exact H5
  | 6, _ => rw [mc_6]; exact H6
  | 7, _ => rw [mc_7]; exact H7
  | 8, _ => rw [mc_8]; exact H8
  | 9, _ => rw [mc_9]; exact H9
  | 10, _ => rw [mc_10]; exact H10
  | 11, _ => rw [mc_11]; exact H11
  | 12, _ => rw [mc_12]; exact H12
  | 13, _ => rw [mc_13]; exact H13
  | 14, _ => rw [mc_14]; exact H14
  | 15, _ => rw [mc_15]; exact H15
  | 16, _ => rw [mc_16]; exact H16
  | 17, _ => rw [mc_17]; exact H17
  | 18, _ => rw [mc_18]; exact H18
  | j + 19, hj => omega
set_option maxHeartbeats 40000000 in
theorem M_init (m : Nat) (h : Hs_t) (h1 : h.1 = m + 1) (hm : h.2 m = some (ce_O 8 [.int 0, .null, .null, .null, .int 0, .int 0, .int 0, .null, .null, .null, .null, .null, .null, .null, .null, .null, .null, .null, .null, .null, .int 0, .int 0, .int 0, .int 0, .null, .int 0, .null, .int 0])) : ∃ h', f_M_init m h = re_V h' ∧ h'.1 = m + 19 ∧ MH m g_0 h' = h' ∧ ∀ q, q < m → h'.2 q = h.2 q := by
  obtain ⟨k1, e1, l1, s1, a1, f1⟩ := st_g (ts := [8]) (k := 1) (c := ce_I 120 (fun _ => 0)) hm (by rw [h1]; exact lt_1 m 0) (by decide) (by show 1 < 28; decide)
  rw [h1] at l1 s1 a1 f1
  have l1 : k1.1 = m + 2 := l1
  have s1 : k1.2 m = some (ce_O 8 [.int 0, .ref (m + 1), .null, .null, .int 0, .int 0, .int 0, .null, .null, .null, .null, .null, .null, .null, .null, .null, .null, .null, .null, .null, .int 0, .int 0, .int 0, .int 0, .null, .int 0, .null, .int 0]) := s1
  obtain ⟨k2, e2, l2, s2, a2, f2⟩ := st_g (ts := [8]) (k := 2) (c := ce_Z 121 (fun _ => 0)) s1 (by rw [l1]; exact lt_1 m 1) (by decide) (by show 2 < 28; decide)
  rw [l1] at l2 s2 a2 f2
  have l2 : k2.1 = m + 3 := l2
  have s2 : k2.2 m = some (ce_O 8 [.int 0, .ref (m + 1), .ref (m + 2), .null, .int 0, .int 0, .int 0, .null, .null, .null, .null, .null, .null, .null, .null, .null, .null, .null, .null, .null, .int 0, .int 0, .int 0, .int 0, .null, .int 0, .null, .int 0]) := s2
  obtain ⟨k3, e3, l3, s3, a3, f3⟩ := st_g (ts := [8]) (k := 3) (c := ce_Z 121 (fun _ => 0)) s2 (by rw [l2]; exact lt_1 m 2) (by decide) (by show 3 < 28; decide)
  rw [l2] at l3 s3 a3 f3
  have l3 : k3.1 = m + 4 := l3
  have s3 : k3.2 m = some (ce_O 8 [.int 0, .ref (m + 1), .ref (m + 2), .ref (m + 3), .int 0, .int 0, .int 0, .null, .null, .null, .null, .null, .null, .null, .null, .null, .null, .null, .null, .null, .int 0, .int 0, .int 0, .int 0, .null, .int 0, .null, .int 0]) := s3
  obtain ⟨k4, e4, l4, s4, a4, f4⟩ := st_g (ts := [8]) (k := 7) (c := ce_I 5 (fun _ => 0)) s3 (by rw [l3]; exact lt_1 m 3) (by decide) (by show 7 < 28; decide)
  rw [l3] at l4 s4 a4 f4
  have l4 : k4.1 = m + 5 := l4
  have s4 : k4.2 m = some (ce_O 8 [.int 0, .ref (m + 1), .ref (m + 2), .ref (m + 3), .int 0, .int 0, .int 0, .ref (m + 4), .null, .null, .null, .null, .null, .null, .null, .null, .null, .null, .null, .null, .int 0, .int 0, .int 0, .int 0, .null, .int 0, .null, .int 0]) := s4
  obtain ⟨k5, e5, l5, s5, a5, f5⟩ := st_g (ts := [8]) (k := 8) (c := ce_I 5 (fun _ => 0)) s4 (by rw [l4]; exact lt_1 m 4) (by decide) (by show 8 < 28; decide)
  rw [l4] at l5 s5 a5 f5
  have l5 : k5.1 = m + 6 := l5
  have s5 : k5.2 m = some (ce_O 8 [.int 0, .ref (m + 1), .ref (m + 2), .ref (m + 3), .int 0, .int 0, .int 0, .ref (m + 4), .ref (m + 5), .null, .null, .null, .null, .null, .null, .null, .null, .null, .null, .null, .int 0, .int 0, .int 0, .int 0, .null, .int 0, .null, .int 0]) := s5
  obtain ⟨k6, e6, l6, s6, a6, f6⟩ := st_g (ts := [8]) (k := 9) (c := ce_I 5 (fun _ => 0)) s5 (by rw [l5]; exact lt_1 m 5) (by decide) (by show 9 < 28; decide)
  rw [l5] at l6 s6 a6 f6
  have l6 : k6.1 = m + 7 := l6
  have s6 : k6.2 m = some (ce_O 8 [.int 0, .ref (m + 1), .ref (m + 2), .ref (m + 3), .int 0, .int 0, .int 0, .ref (m + 4), .ref (m + 5), .ref (m + 6), .null, .null, .null, .null, .null, .null, .null, .null, .null, .null, .int 0, .int 0, .int 0, .int 0, .null, .int 0, .null, .int 0]) := s6
  obtain ⟨k7, e7, l7, s7, a7, f7⟩ := st_g (ts := [8]) (k := 10) (c := ce_I 5 (fun _ => 0)) s6 (by rw [l6]; exact lt_1 m 6) (by decide) (by show 10 < 28; decide)
  rw [l6] at l7 s7 a7 f7
  have l7 : k7.1 = m + 8 := l7
  have s7 : k7.2 m = some (ce_O 8 [.int 0, .ref (m + 1), .ref (m + 2), .ref (m + 3), .int 0, .int 0, .int 0, .ref (m + 4), .ref (m + 5), .ref (m + 6), .ref (m + 7), .null, .null, .null, .null, .null, .null, .null, .null, .null, .int 0, .int 0, .int 0, .int 0, .null, .int 0, .null, .int 0]) := s7
  obtain ⟨k8, e8, l8, s8, a8, f8⟩ := st_g (ts := [8]) (k := 11) (c := ce_Z 5 (fun _ => 0)) s7 (by rw [l7]; exact lt_1 m 7) (by decide) (by show 11 < 28; decide)
  rw [l7] at l8 s8 a8 f8
  have l8 : k8.1 = m + 9 := l8
  have s8 : k8.2 m = some (ce_O 8 [.int 0, .ref (m + 1), .ref (m + 2), .ref (m + 3), .int 0, .int 0, .int 0, .ref (m + 4), .ref (m + 5), .ref (m + 6), .ref (m + 7), .ref (m + 8), .null, .null, .null, .null, .null, .null, .null, .null, .int 0, .int 0, .int 0, .int 0, .null, .int 0, .null, .int 0]) := s8
  obtain ⟨k9, e9, l9, s9, a9, f9⟩ := st_g (ts := [8]) (k := 12) (c := ce_Z 5 (fun _ => 0)) s8 (by rw [l8]; exact lt_1 m 8) (by decide) (by show 12 < 28; decide)
  rw [l8] at l9 s9 a9 f9
  have l9 : k9.1 = m + 10 := l9
  have s9 : k9.2 m = some (ce_O 8 [.int 0, .ref (m + 1), .ref (m + 2), .ref (m + 3), .int 0, .int 0, .int 0, .ref (m + 4), .ref (m + 5), .ref (m + 6), .ref (m + 7), .ref (m + 8), .ref (m + 9), .null, .null, .null, .null, .null, .null, .null, .int 0, .int 0, .int 0, .int 0, .null, .int 0, .null, .int 0]) := s9
  obtain ⟨k10, e10, l10, s10, a10, f10⟩ := st_g (ts := [8]) (k := 13) (c := ce_I 320 (fun _ => 0)) s9 (by rw [l9]; exact lt_1 m 9) (by decide) (by show 13 < 28; decide)
  rw [l9] at l10 s10 a10 f10
  have l10 : k10.1 = m + 11 := l10
  have s10 : k10.2 m = some (ce_O 8 [.int 0, .ref (m + 1), .ref (m + 2), .ref (m + 3), .int 0, .int 0, .int 0, .ref (m + 4), .ref (m + 5), .ref (m + 6), .ref (m + 7), .ref (m + 8), .ref (m + 9), .ref (m + 10), .null, .null, .null, .null, .null, .null, .int 0, .int 0, .int 0, .int 0, .null, .int 0, .null, .int 0]) := s10
  obtain ⟨k11, e11, l11, s11, a11, f11⟩ := st_g (ts := [8]) (k := 14) (c := ce_I 5 (fun _ => 0)) s10 (by rw [l10]; exact lt_1 m 10) (by decide) (by show 14 < 28; decide)
  rw [l10] at l11 s11 a11 f11
  have l11 : k11.1 = m + 12 := l11
  have s11 : k11.2 m = some (ce_O 8 [.int 0, .ref (m + 1), .ref (m + 2), .ref (m + 3), .int 0, .int 0, .int 0, .ref (m + 4), .ref (m + 5), .ref (m + 6), .ref (m + 7), .ref (m + 8), .ref (m + 9), .ref (m + 10), .ref (m + 11), .null, .null, .null, .null, .null, .int 0, .int 0, .int 0, .int 0, .null, .int 0, .null, .int 0]) := s11
  obtain ⟨k12, e12, l12, s12, a12, f12⟩ := st_g (ts := [8]) (k := 15) (c := ce_I 5 (fun _ => 0)) s11 (by rw [l11]; exact lt_1 m 11) (by decide) (by show 15 < 28; decide)
  rw [l11] at l12 s12 a12 f12
  have l12 : k12.1 = m + 13 := l12
  have s12 : k12.2 m = some (ce_O 8 [.int 0, .ref (m + 1), .ref (m + 2), .ref (m + 3), .int 0, .int 0, .int 0, .ref (m + 4), .ref (m + 5), .ref (m + 6), .ref (m + 7), .ref (m + 8), .ref (m + 9), .ref (m + 10), .ref (m + 11), .ref (m + 12), .null, .null, .null, .null, .int 0, .int 0, .int 0, .int 0, .null, .int 0, .null, .int 0]) := s12
  obtain ⟨k13, e13, l13, s13, a13, f13⟩ := st_g (ts := [8]) (k := 16) (c := ce_Z 5 (fun _ => 0)) s12 (by rw [l12]; exact lt_1 m 12) (by decide) (by show 16 < 28; decide)
  rw [l12] at l13 s13 a13 f13
  have l13 : k13.1 = m + 14 := l13
  have s13 : k13.2 m = some (ce_O 8 [.int 0, .ref (m + 1), .ref (m + 2), .ref (m + 3), .int 0, .int 0, .int 0, .ref (m + 4), .ref (m + 5), .ref (m + 6), .ref (m + 7), .ref (m + 8), .ref (m + 9), .ref (m + 10), .ref (m + 11), .ref (m + 12), .ref (m + 13), .null, .null, .null, .int 0, .int 0, .int 0, .int 0, .null, .int 0, .null, .int 0]) := s13
  obtain ⟨k14, e14, l14, s14, a14, f14⟩ := st_g (ts := [8]) (k := 17) (c := ce_I 5 (fun _ => 0)) s13 (by rw [l13]; exact lt_1 m 13) (by decide) (by show 17 < 28; decide)
  rw [l13] at l14 s14 a14 f14
  have l14 : k14.1 = m + 15 := l14
  have s14 : k14.2 m = some (ce_O 8 [.int 0, .ref (m + 1), .ref (m + 2), .ref (m + 3), .int 0, .int 0, .int 0, .ref (m + 4), .ref (m + 5), .ref (m + 6), .ref (m + 7), .ref (m + 8), .ref (m + 9), .ref (m + 10), .ref (m + 11), .ref (m + 12), .ref (m + 13), .ref (m + 14), .null, .null, .int 0, .int 0, .int 0, .int 0, .null, .int 0, .null, .int 0]) := s14
  obtain ⟨k15, e15, l15, s15, a15, f15⟩ := st_g (ts := [8]) (k := 18) (c := ce_I 5 (fun _ => 0)) s14 (by rw [l14]; exact lt_1 m 14) (by decide) (by show 18 < 28; decide)
  rw [l14] at l15 s15 a15 f15
  have l15 : k15.1 = m + 16 := l15
  have s15 : k15.2 m = some (ce_O 8 [.int 0, .ref (m + 1), .ref (m + 2), .ref (m + 3), .int 0, .int 0, .int 0, .ref (m + 4), .ref (m + 5), .ref (m + 6), .ref (m + 7), .ref (m + 8), .ref (m + 9), .ref (m + 10), .ref (m + 11), .ref (m + 12), .ref (m + 13), .ref (m + 14), .ref (m + 15), .null, .int 0, .int 0, .int 0, .int 0, .null, .int 0, .null, .int 0]) := s15
  obtain ⟨k16, e16, l16, s16, a16, f16⟩ := st_g (ts := [8]) (k := 19) (c := ce_I 120 (fun _ => 0)) s15 (by rw [l15]; exact lt_1 m 15) (by decide) (by show 19 < 28; decide)
  rw [l15] at l16 s16 a16 f16
  have l16 : k16.1 = m + 17 := l16
  have s16 : k16.2 m = some (ce_O 8 [.int 0, .ref (m + 1), .ref (m + 2), .ref (m + 3), .int 0, .int 0, .int 0, .ref (m + 4), .ref (m + 5), .ref (m + 6), .ref (m + 7), .ref (m + 8), .ref (m + 9), .ref (m + 10), .ref (m + 11), .ref (m + 12), .ref (m + 13), .ref (m + 14), .ref (m + 15), .ref (m + 16), .int 0, .int 0, .int 0, .int 0, .null, .int 0, .null, .int 0]) := s16
  obtain ⟨k17, e17, l17, s17, a17, f17⟩ := st_g (ts := [8]) (k := 24) (c := ce_I 600 (fun _ => 0)) s16 (by rw [l16]; exact lt_1 m 16) (by decide) (by show 24 < 28; decide)
  rw [l16] at l17 s17 a17 f17
  have l17 : k17.1 = m + 18 := l17
  have s17 : k17.2 m = some (ce_O 8 [.int 0, .ref (m + 1), .ref (m + 2), .ref (m + 3), .int 0, .int 0, .int 0, .ref (m + 4), .ref (m + 5), .ref (m + 6), .ref (m + 7), .ref (m + 8), .ref (m + 9), .ref (m + 10), .ref (m + 11), .ref (m + 12), .ref (m + 13), .ref (m + 14), .ref (m + 15), .ref (m + 16), .int 0, .int 0, .int 0, .int 0, .ref (m + 17), .int 0, .null, .int 0]) := s17
  obtain ⟨k18, e18, l18, s18, a18, f18⟩ := st_g (ts := [8]) (k := 26) (c := ce_I 120 (fun _ => 0)) s17 (by rw [l17]; exact lt_1 m 17) (by decide) (by show 26 < 28; decide)
  rw [l17] at l18 s18 a18 f18
  have l18 : k18.1 = m + 19 := l18
  have s18 : k18.2 m = some (ce_O 8 [.int 0, .ref (m + 1), .ref (m + 2), .ref (m + 3), .int 0, .int 0, .int 0, .ref (m + 4), .ref (m + 5), .ref (m + 6), .ref (m + 7), .ref (m + 8), .ref (m + 9), .ref (m + 10), .ref (m + 11), .ref (m + 12), .ref (m + 13), .ref (m + 14), .ref (m + 15), .ref (m + 16), .int 0, .int 0, .int 0, .int 0, .ref (m + 17), .int 0, .ref (m + 18), .int 0]) := s18
  rw [f_M_init]
  rw [nw_I120, e1]
  rw [nw_Z121, e2]
  rw [nw_Z121, e3]
  rw [nw_I5, e4]
  rw [nw_I5, e5]
  rw [nw_I5, e6]
  rw [nw_I5, e7]
  rw [nw_Z5, e8]
  rw [nw_Z5, e9]
  rw [nw_I320, e10]
  rw [nw_I5, e11]
  rw [nw_I5, e12]
  rw [nw_Z5, e13]
  rw [nw_I5, e14]
  rw [nw_I5, e15]
  rw [nw_I120, e16]
  rw [nw_I600, e17]
  rw [nw_I120, e18]
  have c1 : k18.2 (m + 1) = some (ce_I 120 (fun _ => 0)) := by
    rw [f18 _ (ne_1 m 0) (ne_2 m 0 18 (by decide)), f17 _ (ne_1 m 0) (ne_2 m 0 17 (by decide)), f16 _ (ne_1 m 0) (ne_2 m 0 16 (by decide)), f15 _ (ne_1 m 0) (ne_2 m 0 15 (by decide)), f14 _ (ne_1 m 0) (ne_2 m 0 14 (by decide)), f13 _ (ne_1 m 0) (ne_2 m 0 13 (by decide)), f12 _ (ne_1 m 0) (ne_2 m 0 12 (by decide)), f11 _ (ne_1 m 0) (ne_2 m 0 11 (by decide)), f10 _ (ne_1 m 0) (ne_2 m 0 10 (by decide)), f9 _ (ne_1 m 0) (ne_2 m 0 9 (by decide)), f8 _ (ne_1 m 0) (ne_2 m 0 8 (by decide)), f7 _ (ne_1 m 0) (ne_2 m 0 7 (by decide)), f6 _ (ne_1 m 0) (ne_2 m 0 6 (by decide)), f5 _ (ne_1 m 0) (ne_2 m 0 5 (by decide)), f4 _ (ne_1 m 0) (ne_2 m 0 4 (by decide)), f3 _ (ne_1 m 0) (ne_2 m 0 3 (by decide)), f2 _ (ne_1 m 0) (ne_2 m 0 2 (by decide))]; exact a1
  have c2 : k18.2 (m + 2) = some (ce_Z 121 (fun _ => 0)) := by
    rw [f18 _ (ne_1 m 1) (ne_2 m 1 18 (by decide)), f17 _ (ne_1 m 1) (ne_2 m 1 17 (by decide)), f16 _ (ne_1 m 1) (ne_2 m 1 16 (by decide)), f15 _ (ne_1 m 1) (ne_2 m 1 15 (by decide)), f14 _ (ne_1 m 1) (ne_2 m 1 14 (by decide)), f13 _ (ne_1 m 1) (ne_2 m 1 13 (by decide)), f12 _ (ne_1 m 1) (ne_2 m 1 12 (by decide)), f11 _ (ne_1 m 1) (ne_2 m 1 11 (by decide)), f10 _ (ne_1 m 1) (ne_2 m 1 10 (by decide)), f9 _ (ne_1 m 1) (ne_2 m 1 9 (by decide)), f8 _ (ne_1 m 1) (ne_2 m 1 8 (by decide)), f7 _ (ne_1 m 1) (ne_2 m 1 7 (by decide)), f6 _ (ne_1 m 1) (ne_2 m 1 6 (by decide)), f5 _ (ne_1 m 1) (ne_2 m 1 5 (by decide)), f4 _ (ne_1 m 1) (ne_2 m 1 4 (by decide)), f3 _ (ne_1 m 1) (ne_2 m 1 3 (by decide))]; exact a2
  have c3 : k18.2 (m + 3) = some (ce_Z 121 (fun _ => 0)) := by
    rw [f18 _ (ne_1 m 2) (ne_2 m 2 18 (by decide)), f17 _ (ne_1 m 2) (ne_2 m 2 17 (by decide)), f16 _ (ne_1 m 2) (ne_2 m 2 16 (by decide)), f15 _ (ne_1 m 2) (ne_2 m 2 15 (by decide)), f14 _ (ne_1 m 2) (ne_2 m 2 14 (by decide)), f13 _ (ne_1 m 2) (ne_2 m 2 13 (by decide)), f12 _ (ne_1 m 2) (ne_2 m 2 12 (by decide)), f11 _ (ne_1 m 2) (ne_2 m 2 11 (by decide)), f10 _ (ne_1 m 2) (ne_2 m 2 10 (by decide)), f9 _ (ne_1 m 2) (ne_2 m 2 9 (by decide)), f8 _ (ne_1 m 2) (ne_2 m 2 8 (by decide)), f7 _ (ne_1 m 2) (ne_2 m 2 7 (by decide)), f6 _ (ne_1 m 2) (ne_2 m 2 6 (by decide)), f5 _ (ne_1 m 2) (ne_2 m 2 5 (by decide)), f4 _ (ne_1 m 2) (ne_2 m 2 4 (by decide))]; exact a3
  have c4 : k18.2 (m + 4) = some (ce_I 5 (fun _ => 0)) := by
    rw [f18 _ (ne_1 m 3) (ne_2 m 3 18 (by decide)), f17 _ (ne_1 m 3) (ne_2 m 3 17 (by decide)), f16 _ (ne_1 m 3) (ne_2 m 3 16 (by decide)), f15 _ (ne_1 m 3) (ne_2 m 3 15 (by decide)), f14 _ (ne_1 m 3) (ne_2 m 3 14 (by decide)), f13 _ (ne_1 m 3) (ne_2 m 3 13 (by decide)), f12 _ (ne_1 m 3) (ne_2 m 3 12 (by decide)), f11 _ (ne_1 m 3) (ne_2 m 3 11 (by decide)), f10 _ (ne_1 m 3) (ne_2 m 3 10 (by decide)), f9 _ (ne_1 m 3) (ne_2 m 3 9 (by decide)), f8 _ (ne_1 m 3) (ne_2 m 3 8 (by decide)), f7 _ (ne_1 m 3) (ne_2 m 3 7 (by decide)), f6 _ (ne_1 m 3) (ne_2 m 3 6 (by decide)), f5 _ (ne_1 m 3) (ne_2 m 3 5 (by decide))]; exact a4
  have c5 : k18.2 (m + 5) = some (ce_I 5 (fun _ => 0)) := by
    rw [f18 _ (ne_1 m 4) (ne_2 m 4 18 (by decide)), f17 _ (ne_1 m 4) (ne_2 m 4 17 (by decide)), f16 _ (ne_1 m 4) (ne_2 m 4 16 (by decide)), f15 _ (ne_1 m 4) (ne_2 m 4 15 (by decide)), f14 _ (ne_1 m 4) (ne_2 m 4 14 (by decide)), f13 _ (ne_1 m 4) (ne_2 m 4 13 (by decide)), f12 _ (ne_1 m 4) (ne_2 m 4 12 (by decide)), f11 _ (ne_1 m 4) (ne_2 m 4 11 (by decide)), f10 _ (ne_1 m 4) (ne_2 m 4 10 (by decide)), f9 _ (ne_1 m 4) (ne_2 m 4 9 (by decide)), f8 _ (ne_1 m 4) (ne_2 m 4 8 (by decide)), f7 _ (ne_1 m 4) (ne_2 m 4 7 (by decide)), f6 _ (ne_1 m 4) (ne_2 m 4 6 (by decide))]; exact a5
  have c6 : k18.2 (m + 6) = some (ce_I 5 (fun _ => 0)) := by
    rw [f18 _ (ne_1 m 5) (ne_2 m 5 18 (by decide)), f17 _ (ne_1 m 5) (ne_2 m 5 17 (by decide)), f16 _ (ne_1 m 5) (ne_2 m 5 16 (by decide)), f15 _ (ne_1 m 5) (ne_2 m 5 15 (by decide)), f14 _ (ne_1 m 5) (ne_2 m 5 14 (by decide)), f13 _ (ne_1 m 5) (ne_2 m 5 13 (by decide)), f12 _ (ne_1 m 5) (ne_2 m 5 12 (by decide)), f11 _ (ne_1 m 5) (ne_2 m 5 11 (by decide)), f10 _ (ne_1 m 5) (ne_2 m 5 10 (by decide)), f9 _ (ne_1 m 5) (ne_2 m 5 9 (by decide)), f8 _ (ne_1 m 5) (ne_2 m 5 8 (by decide)), f7 _ (ne_1 m 5) (ne_2 m 5 7 (by decide))]; exact a6
  have c7 : k18.2 (m + 7) = some (ce_I 5 (fun _ => 0)) := by
    rw [f18 _ (ne_1 m 6) (ne_2 m 6 18 (by decide)), f17 _ (ne_1 m 6) (ne_2 m 6 17 (by decide)), f16 _ (ne_1 m 6) (ne_2 m 6 16 (by decide)), f15 _ (ne_1 m 6) (ne_2 m 6 15 (by decide)), f14 _ (ne_1 m 6) (ne_2 m 6 14 (by decide)), f13 _ (ne_1 m 6) (ne_2 m 6 13 (by decide)), f12 _ (ne_1 m 6) (ne_2 m 6 12 (by decide)), f11 _ (ne_1 m 6) (ne_2 m 6 11 (by decide)), f10 _ (ne_1 m 6) (ne_2 m 6 10 (by decide)), f9 _ (ne_1 m 6) (ne_2 m 6 9 (by decide)), f8 _ (ne_1 m 6) (ne_2 m 6 8 (by decide))]; exact a7
  have c8 : k18.2 (m + 8) = some (ce_Z 5 (fun _ => 0)) := by
    rw [f18 _ (ne_1 m 7) (ne_2 m 7 18 (by decide)), f17 _ (ne_1 m 7) (ne_2 m 7 17 (by decide)), f16 _ (ne_1 m 7) (ne_2 m 7 16 (by decide)), f15 _ (ne_1 m 7) (ne_2 m 7 15 (by decide)), f14 _ (ne_1 m 7) (ne_2 m 7 14 (by decide)), f13 _ (ne_1 m 7) (ne_2 m 7 13 (by decide)), f12 _ (ne_1 m 7) (ne_2 m 7 12 (by decide)), f11 _ (ne_1 m 7) (ne_2 m 7 11 (by decide)), f10 _ (ne_1 m 7) (ne_2 m 7 10 (by decide)), f9 _ (ne_1 m 7) (ne_2 m 7 9 (by decide))]; exact a8
  have c9 : k18.2 (m + 9) = some (ce_Z 5 (fun _ => 0)) := by
    rw [f18 _ (ne_1 m 8) (ne_2 m 8 18 (by decide)), f17 _ (ne_1 m 8) (ne_2 m 8 17 (by decide)), f16 _ (ne_1 m 8) (ne_2 m 8 16 (by decide)), f15 _ (ne_1 m 8) (ne_2 m 8 15 (by decide)), f14 _ (ne_1 m 8) (ne_2 m 8 14 (by decide)), f13 _ (ne_1 m 8) (ne_2 m 8 13 (by decide)), f12 _ (ne_1 m 8) (ne_2 m 8 12 (by decide)), f11 _ (ne_1 m 8) (ne_2 m 8 11 (by decide)), f10 _ (ne_1 m 8) (ne_2 m 8 10 (by decide))]; exact a9
  have c10 : k18.2 (m + 10) = some (ce_I 320 (fun _ => 0)) := by
    rw [f18 _ (ne_1 m 9) (ne_2 m 9 18 (by decide)), f17 _ (ne_1 m 9) (ne_2 m 9 17 (by decide)), f16 _ (ne_1 m 9) (ne_2 m 9 16 (by decide)), f15 _ (ne_1 m 9) (ne_2 m 9 15 (by decide)), f14 _ (ne_1 m 9) (ne_2 m 9 14 (by decide)), f13 _ (ne_1 m 9) (ne_2 m 9 13 (by decide)), f12 _ (ne_1 m 9) (ne_2 m 9 12 (by decide)), f11 _ (ne_1 m 9) (ne_2 m 9 11 (by decide))]; exact a10
  have c11 : k18.2 (m + 11) = some (ce_I 5 (fun _ => 0)) := by
    rw [f18 _ (ne_1 m 10) (ne_2 m 10 18 (by decide)), f17 _ (ne_1 m 10) (ne_2 m 10 17 (by decide)), f16 _ (ne_1 m 10) (ne_2 m 10 16 (by decide)), f15 _ (ne_1 m 10) (ne_2 m 10 15 (by decide)), f14 _ (ne_1 m 10) (ne_2 m 10 14 (by decide)), f13 _ (ne_1 m 10) (ne_2 m 10 13 (by decide)), f12 _ (ne_1 m 10) (ne_2 m 10 12 (by decide))]; exact a11
  have c12 : k18.2 (m + 12) = some (ce_I 5 (fun _ => 0)) := by
    rw [f18 _ (ne_1 m 11) (ne_2 m 11 18 (by decide)), f17 _ (ne_1 m 11) (ne_2 m 11 17 (by decide)), f16 _ (ne_1 m 11) (ne_2 m 11 16 (by decide)), f15 _ (ne_1 m 11) (ne_2 m 11 15 (by decide)), f14 _ (ne_1 m 11) (ne_2 m 11 14 (by decide)), f13 _ (ne_1 m 11) (ne_2 m 11 13 (by decide))]; exact a12
  have c13 : k18.2 (m + 13) = some (ce_Z 5 (fun _ => 0)) := by
    rw [f18 _ (ne_1 m 12) (ne_2 m 12 18 (by decide)), f17 _ (ne_1 m 12) (ne_2 m 12 17 (by decide)), f16 _ (ne_1 m 12) (ne_2 m 12 16 (by decide)), f15 _ (ne_1 m 12) (ne_2 m 12 15 (by decide)), f14 _ (ne_1 m 12) (ne_2 m 12 14 (by decide))]; exact a13
  have c14 : k18.2 (m + 14) = some (ce_I 5 (fun _ => 0)) := by
    rw [f18 _ (ne_1 m 13) (ne_2 m 13 18 (by decide)), f17 _ (ne_1 m 13) (ne_2 m 13 17 (by decide)), f16 _ (ne_1 m 13) (ne_2 m 13 16 (by decide)), f15 _ (ne_1 m 13) (ne_2 m 13 15 (by decide))]; exact a14
  have c15 : k18.2 (m + 15) = some (ce_I 5 (fun _ => 0)) := by
    rw [f18 _ (ne_1 m 14) (ne_2 m 14 18 (by decide)), f17 _ (ne_1 m 14) (ne_2 m 14 17 (by decide)), f16 _ (ne_1 m 14) (ne_2 m 14 16 (by decide))]; exact a15
  have c16 : k18.2 (m + 16) = some (ce_I 120 (fun _ => 0)) := by
    rw [f18 _ (ne_1 m 15) (ne_2 m 15 18 (by decide)), f17 _ (ne_1 m 15) (ne_2 m 15 17 (by decide))]; exact a16
  have c17 : k18.2 (m + 17) = some (ce_I 600 (fun _ => 0)) := by
    rw [f18 _ (ne_1 m 16) (ne_2 m 16 18 (by decide))]; exact a17
  have c18 : k18.2 (m + 18) = some (ce_I 120 (fun _ => 0)) := by
    exact a18
  have fA : fd_A [8] 2 k18 m = some (m + 2) := by simp only [fd_A, fd_V, s18]; rfl
  simp only [fA, Option.bind_some, as_Z, c2, show in_R 0 121 = true by decide, show is_Z 1 = true by decide, Bool.and_self, if_true, show (0 : Int32).toNatClampNeg = 0 by decide]
  refine ⟨hp_S k18 (m + 2) (ce_Z 121 (upd (fun _ => 0) 0 1)), rfl, l18, ?_, fun q hq => ?_⟩
  · refine MH_of2 (by rw [hp_ne _ _ _ _ (Ne.symm (ne_1 m 1))]; exact s18) (by rw [hp_ne _ _ _ _ (ne_2 m 0 2 (by decide))]; exact c1) (hp_at _ _ _) (by rw [hp_ne _ _ _ _ (ne_2 m 2 2 (by decide))]; exact c3) (by rw [hp_ne _ _ _ _ (ne_2 m 3 2 (by decide))]; exact c4) (by rw [hp_ne _ _ _ _ (ne_2 m 4 2 (by decide))]; exact c5) (by rw [hp_ne _ _ _ _ (ne_2 m 5 2 (by decide))]; exact c6) (by rw [hp_ne _ _ _ _ (ne_2 m 6 2 (by decide))]; exact c7) (by rw [hp_ne _ _ _ _ (ne_2 m 7 2 (by decide))]; exact c8) (by rw [hp_ne _ _ _ _ (ne_2 m 8 2 (by decide))]; exact c9) (by rw [hp_ne _ _ _ _ (ne_2 m 9 2 (by decide))]; exact c10) (by rw [hp_ne _ _ _ _ (ne_2 m 10 2 (by decide))]; exact c11) (by rw [hp_ne _ _ _ _ (ne_2 m 11 2 (by decide))]; exact c12) (by rw [hp_ne _ _ _ _ (ne_2 m 12 2 (by decide))]; exact c13) (by rw [hp_ne _ _ _ _ (ne_2 m 13 2 (by decide))]; exact c14) (by rw [hp_ne _ _ _ _ (ne_2 m 14 2 (by decide))]; exact c15) (by rw [hp_ne _ _ _ _ (ne_2 m 15 2 (by decide))]; exact c16) (by rw [hp_ne _ _ _ _ (ne_2 m 16 2 (by decide))]; exact c17) (by rw [hp_ne _ _ _ _ (ne_2 m 17 2 (by decide))]; exact c18)
  · rw [hp_ne _ _ _ _ (ne_3 hq 2), f18 _ (Nat.ne_of_lt hq) (ne_3 hq 18), f17 _ (Nat.ne_of_lt hq) (ne_3 hq 17), f16 _ (Nat.ne_of_lt hq) (ne_3 hq 16), f15 _ (Nat.ne_of_lt hq) (ne_3 hq 15), f14 _ (Nat.ne_of_lt hq) (ne_3 hq 14), f13 _ (Nat.ne_of_lt hq) (ne_3 hq 13), f12 _ (Nat.ne_of_lt hq) (ne_3 hq 12), f11 _ (Nat.ne_of_lt hq) (ne_3 hq 11), f10 _ (Nat.ne_of_lt hq) (ne_3 hq 10), f9 _ (Nat.ne_of_lt hq) (ne_3 hq 9), f8 _ (Nat.ne_of_lt hq) (ne_3 hq 8), f7 _ (Nat.ne_of_lt hq) (ne_3 hq 7), f6 _ (Nat.ne_of_lt hq) (ne_3 hq 6), f5 _ (Nat.ne_of_lt hq) (ne_3 hq 5), f4 _ (Nat.ne_of_lt hq) (ne_3 hq 4), f3 _ (Nat.ne_of_lt hq) (ne_3 hq 3), f2 _ (Nat.ne_of_lt hq) (ne_3 hq 2), f1 _ (Nat.ne_of_lt hq) (ne_3 hq 1)]
