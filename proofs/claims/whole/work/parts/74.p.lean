theorem T_init (n : Nat) : ∃ h2, f_T_init n (hp_N (n, fun _ => none) (ce_O 0 [.null, .null, .null, .null, .null, .null, .int 0, .int 0, .int 0, .int 0])) = re_V h2 ∧ h2.1 = n + 11 ∧ h2.2 n = some (ce_O 0 [.ref (n + 1), .ref (n + 5), .ref (n + 6), .ref (n + 7), .ref (n + 9), .ref (n + 1), .int 0, .int 0, .int 0, .int 0]) ∧ h2.2 (n + 1) = some (ce_O 2 [.ref (n + 2), .ref (n + 3), .ref (n + 4), .int 0, .int 0]) ∧ h2.2 (n + 2) = some (ce_I 120 (fun _ => 0)) ∧ h2.2 (n + 3) = some (ce_Z 121 (fun _ => 0)) ∧ h2.2 (n + 4) = some (ce_Z 121 (fun _ => 0)) ∧ h2.2 (n + 5) = some (ce_R 5 (fun _ => none)) ∧ h2.2 (n + 6) = some (ce_I 120 (fun _ => 0)) ∧ h2.2 (n + 7) = some (ce_O 1 [.ref (n + 8), .int 0]) ∧ h2.2 (n + 8) = some (ce_I 160 (fun _ => 0)) ∧ h2.2 (n + 9) = some (ce_O 1 [.ref (n + 10), .int 0]) ∧ h2.2 (n + 10) = some (ce_I 118 (fun _ => 0)) := by
  have i1 : nw_I 160 160 = fun h => some (hp_N h (ce_I 160 (fun _ => 0))) := by funext h; simp only [nw_I, show ¬ ((160 : Int32) < 0) by decide, show (160 : Int32).toNatClampNeg = 160 by decide, decide_false, Bool.not_false, Nat.le_refl, decide_true, Bool.and_self, if_true]
  have i2 : nw_I 160 118 = fun h => some (hp_N h (ce_I 118 (fun _ => 0))) := by funext h; simp only [nw_I, show ¬ ((118 : Int32) < 0) by decide, show (118 : Int32).toNatClampNeg = 118 by decide, decide_false, Bool.not_false, show decide (118 ≤ 160) = true by decide, Bool.and_self, if_true]
  have i3 : nw_R 5 5 = fun h => some (hp_N h (ce_R 5 (fun _ => none))) := by funext h; simp only [nw_R, show ¬ ((5 : Int32) < 0) by decide, show (5 : Int32).toNatClampNeg = 5 by decide, decide_false, Bool.not_false, Nat.le_refl, decide_true, Bool.and_self, if_true]
  rw [f_T_init]
  generalize hh0 : hp_N (n, fun _ => none) (ce_O 0 [.null, .null, .null, .null, .null, .null, .int 0, .int 0, .int 0, .int 0]) = h0
  have b1 : h0.1 = n + 1 := by rw [← hh0]; rfl
  have b2 : h0.2 n = some (ce_O 0 [.null, .null, .null, .null, .null, .null, .int 0, .int 0, .int 0, .int 0]) := by rw [← hh0]; exact if_pos rfl
  clear hh0
  simp only [nw_O, Option.bind_some, b1]
  generalize hh1 : hp_N h0 (ce_O 2 [.null, .null, .null, .int 0, .int 0]) = h1
  have d1 : h1.1 = n + 2 := by rw [← hh1, hn_1, b1]
  have d2 : h1.2 (n + 1) = some (ce_O 2 [.null, .null, .null, .int 0, .int 0]) := by rw [← hh1, ← b1]; exact hn_at _ _
  have d3 : h1.2 n = some (ce_O 0 [.null, .null, .null, .null, .null, .null, .int 0, .int 0, .int 0, .int 0]) := by rw [← hh1, hn_ne _ _ _ (by omega)]; exact b2
  clear hh1
  obtain ⟨k1, e1, l1, s1, a1, f1⟩ := st_g (ts := [2]) (k := 0) (c := ce_I 120 (fun _ => 0)) d2 (by rw [d1]; omega) (by decide) (by simp)
  rw [d1] at l1 s1 a1 f1
  obtain ⟨k2, e2, l2, s2, a2, f2⟩ := st_g (ts := [2]) (k := 1) (c := ce_Z 121 (fun _ => 0)) s1 (by rw [l1]; omega) (by decide) (by simp)
  rw [l1] at l2 s2 a2 f2
  obtain ⟨k3, e3, l3, s3, a3, f3⟩ := st_g (ts := [2]) (k := 2) (c := ce_Z 121 (fun _ => 0)) s2 (by rw [l2]; omega) (by decide) (by simp)
  rw [l2] at l3 s3 a3 f3
  have eS : f_Src_init (n + 1) h1 = re_V k3 := by
    rw [f_Src_init, f_Str_init]
    simp only [bd_V, re_V]
    rw [nw_I120, e1, nw_Z121, e2, nw_Z121, e3]
  rw [eS]
  simp only [bd_V, re_V]
  have t3 : k3.2 n = some (ce_O 0 [.null, .null, .null, .null, .null, .null, .int 0, .int 0, .int 0, .int 0]) := by rw [f3 _ (by omega) (by omega), f2 _ (by omega) (by omega), f1 _ (by omega) (by omega)]; exact d3
  have p0 : pt_V [0] 0 k3 n (.ref (n + 1)) = some (hp_S k3 n (ce_O 0 [.ref (n + 1), .null, .null, .null, .null, .null, .int 0, .int 0, .int 0, .int 0])) := by simp only [pt_V, t3]; rfl
  rw [p0, Option.bind_some]
  generalize hh4 : hp_S k3 n (ce_O 0 [.ref (n + 1), .null, .null, .null, .null, .null, .int 0, .int 0, .int 0, .int 0]) = h4
  have g1 : h4.1 = n + 5 := by rw [← hh4, hp_1, l3]
  have g2 : h4.2 n = some (ce_O 0 [.ref (n + 1), .null, .null, .null, .null, .null, .int 0, .int 0, .int 0, .int 0]) := by rw [← hh4]; exact hp_at _ _ _
  have g3 : ∀ q, q ≠ n → h4.2 q = k3.2 q := fun q hq => by rw [← hh4]; exact hp_ne _ _ _ _ hq
  clear hh4
  obtain ⟨k5, e5, l5, s5, a5, f5⟩ := st_g (ts := [0]) (k := 1) (c := ce_R 5 (fun _ => none)) g2 (by rw [g1]; omega) (by decide) (by simp)
  rw [g1] at l5 s5 a5 f5
  obtain ⟨k6, e6, l6, s6, a6, f6⟩ := st_g (ts := [0]) (k := 2) (c := ce_I 120 (fun _ => 0)) s5 (by rw [l5]; omega) (by decide) (by simp)
  rw [l5] at l6 s6 a6 f6
  rw [i3, e5, nw_I120, e6]
  simp only [l6]
  generalize hh7 : hp_N k6 (ce_O 1 [.null, .int 0]) = h7
  have u1 : h7.1 = n + 8 := by rw [← hh7, hn_1, l6]
  have u2 : h7.2 (n + 7) = some (ce_O 1 [.null, .int 0]) := by rw [← hh7, show n + 7 = k6.1 by rw [l6]]; exact hn_at _ _
  have u3 : ∀ q, q < n + 7 → h7.2 q = k6.2 q := fun q hq => by rw [← hh7]; exact hn_ne _ _ _ (by rw [l6]; omega)
  clear hh7
  obtain ⟨k8, e8, l8, s8, a8, f8⟩ := st_g (ts := [1]) (k := 0) (c := ce_I 160 (fun _ => 0)) u2 (by rw [u1]; omega) (by decide) (by simp)
  rw [u1] at l8 s8 a8 f8
  have eR : f_Row_init (n + 7) 160 h7 = re_V k8 := by rw [f_Row_init, i1, e8]
  simp only [Option.bind_some, show n + 5 + 1 + 1 = n + 7 from rfl]
  rw [eR]
  simp only [bd_V, re_V]
  have t8 : k8.2 n = some (ce_O 0 [.ref (n + 1), .ref (n + 5), .ref (n + 6), .null, .null, .null, .int 0, .int 0, .int 0, .int 0]) := by rw [f8 _ (by omega) (by omega), u3 _ (by omega)]; exact s6
  have p3 : pt_V [0] 3 k8 n (.ref (n + 7)) = some (hp_S k8 n (ce_O 0 [.ref (n + 1), .ref (n + 5), .ref (n + 6), .ref (n + 7), .null, .null, .int 0, .int 0, .int 0, .int 0])) := by simp only [pt_V, t8]; rfl
  rw [p3, Option.bind_some]
  generalize hh9 : hp_S k8 n (ce_O 0 [.ref (n + 1), .ref (n + 5), .ref (n + 6), .ref (n + 7), .null, .null, .int 0, .int 0, .int 0, .int 0]) = h9
  have w1 : h9.1 = n + 9 := by rw [← hh9, hp_1, l8]
  have w2 : h9.2 n = some (ce_O 0 [.ref (n + 1), .ref (n + 5), .ref (n + 6), .ref (n + 7), .null, .null, .int 0, .int 0, .int 0, .int 0]) := by rw [← hh9]; exact hp_at _ _ _
  have w3 : ∀ q, q ≠ n → h9.2 q = k8.2 q := fun q hq => by rw [← hh9]; exact hp_ne _ _ _ _ hq
  clear hh9
  simp only [w1]
  generalize hh10 : hp_N h9 (ce_O 1 [.null, .int 0]) = h10
  have x1 : h10.1 = n + 10 := by rw [← hh10, hn_1, w1]
  have x2 : h10.2 (n + 9) = some (ce_O 1 [.null, .int 0]) := by rw [← hh10, ← w1]; exact hn_at _ _
  have x3 : ∀ q, q < n + 9 → h10.2 q = h9.2 q := fun q hq => by rw [← hh10]; exact hn_ne _ _ _ (by rw [w1]; omega)
  clear hh10
  obtain ⟨k11, e11, l11, s11, a11, f11⟩ := st_g (ts := [1]) (k := 0) (c := ce_I 118 (fun _ => 0)) x2 (by rw [x1]; omega) (by decide) (by simp)
  rw [x1] at l11 s11 a11 f11
  have eR2 : f_Row_init (n + 9) 118 h10 = re_V k11 := by rw [f_Row_init, i2, e11]
  rw [eR2]
  simp only [re_V]
  have t11 : k11.2 n = some (ce_O 0 [.ref (n + 1), .ref (n + 5), .ref (n + 6), .ref (n + 7), .null, .null, .int 0, .int 0, .int 0, .int 0]) := by rw [f11 _ (by omega) (by omega), x3 _ (by omega)]; exact w2
  have p4 : pt_V [0] 4 k11 n (.ref (n + 9)) = some (hp_S k11 n (ce_O 0 [.ref (n + 1), .ref (n + 5), .ref (n + 6), .ref (n + 7), .ref (n + 9), .null, .int 0, .int 0, .int 0, .int 0])) := by simp only [pt_V, t11]; rfl
  rw [p4, Option.bind_some]
  generalize hh12 : hp_S k11 n (ce_O 0 [.ref (n + 1), .ref (n + 5), .ref (n + 6), .ref (n + 7), .ref (n + 9), .null, .int 0, .int 0, .int 0, .int 0]) = h12
  have y1 : h12.1 = n + 11 := by rw [← hh12, hp_1, l11]
  have y2 : h12.2 n = some (ce_O 0 [.ref (n + 1), .ref (n + 5), .ref (n + 6), .ref (n + 7), .ref (n + 9), .null, .int 0, .int 0, .int 0, .int 0]) := by rw [← hh12]; exact hp_at _ _ _
  have y3 : ∀ q, q ≠ n → h12.2 q = k11.2 q := fun q hq => by rw [← hh12]; exact hp_ne _ _ _ _ hq
  clear hh12
  have fA : fd_A [0] 0 h12 n = some (n + 1) := by simp only [fd_A, fd_V, y2]; rfl
  have p5 : pt_V [0] 5 h12 n (.ref (n + 1)) = some (hp_S h12 n (ce_O 0 [.ref (n + 1), .ref (n + 5), .ref (n + 6), .ref (n + 7), .ref (n + 9), .ref (n + 1), .int 0, .int 0, .int 0, .int 0])) := by simp only [pt_V, y2]; rfl
  rw [fA, Option.bind_some, p5, Option.bind_some]
  have hi : ∀ q, q ≠ n → q < n + 9 → (hp_S h12 n (ce_O 0 [.ref (n + 1), .ref (n + 5), .ref (n + 6), .ref (n + 7), .ref (n + 9), .ref (n + 1), .int 0, .int 0, .int 0, .int 0])).2 q = k8.2 q := fun q q1 q2 => by rw [hp_ne _ _ _ _ q1, y3 q q1, f11 q (by omega) (by omega), x3 q q2, w3 q q1]
  have hi2 : ∀ q, q ≠ n → q < n + 5 → k8.2 q = k3.2 q := fun q q1 q2 => by rw [f8 q (by omega) (by omega), u3 q (by omega), f6 q q1 (by omega), f5 q q1 (by omega), g3 q q1]
  refine ⟨_, rfl, y1, hp_at _ _ _, ?_, ?_, ?_, ?_, ?_, ?_, ?_, ?_, ?_, ?_⟩
  · rw [hi _ (by omega) (by omega), hi2 _ (by omega) (by omega)]; exact s3
  · rw [hi _ (by omega) (by omega), hi2 _ (by omega) (by omega), f3 _ (by omega) (by omega), f2 _ (by omega) (by omega)]; exact a1
  · rw [hi _ (by omega) (by omega), hi2 _ (by omega) (by omega), f3 _ (by omega) (by omega)]; exact a2
  · rw [hi _ (by omega) (by omega), hi2 _ (by omega) (by omega)]; exact a3
  · rw [hi _ (by omega) (by omega), f8 _ (by omega) (by omega), u3 _ (by omega), f6 _ (by omega) (by omega)]; exact a5
  · rw [hi _ (by omega) (by omega), f8 _ (by omega) (by omega), u3 _ (by omega)]; exact a6
  · rw [hi _ (by omega) (by omega)]; exact s8
  · rw [hi _ (by omega) (by omega)]; exact a8
  · rw [hp_ne _ _ _ _ (by omega), y3 _ (by omega)]; exact s11
  · rw [hp_ne _ _ _ _ (by omega), y3 _ (by omega)]; exact a11
