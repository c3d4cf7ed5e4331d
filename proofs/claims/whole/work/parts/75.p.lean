theorem law_ok (L : Nat) (xs : Nat → Int32) (n0 : Nat) (hL : L ≤ 1536) : ∃ r, f_L_law L xs (n0, fun _ => none) = some r := by
  obtain ⟨h2, e1, e2, c0, c1, c2, c3, c4, c5, c6, c7, c8, c9, c10⟩ := T_init n0
  obtain ⟨h4, m1, m2, m3, m4⟩ := M_init (n0 + 11) (hp_N h2 (ce_O 8 [.int 0, .null, .null, .null, .int 0, .int 0, .int 0, .null, .null, .null, .null, .null, .null, .null, .null, .null, .null, .null, .null, .null, .int 0, .int 0, .int 0, .int 0, .null, .int 0, .null, .int 0])) (by rw [hn_1, e2]) (by rw [← e2]; exact hn_at _ _)
  have hq : ∀ q, q < n0 + 11 → h4.2 q = h2.2 q := fun q hq => by rw [m4 q hq, hn_ne _ _ _ (by rw [e2]; omega)]
  have hq5 : ∀ (c : Ce_t) (q : Nat), q < n0 + 30 → (hp_N h4 c).2 q = h4.2 q := fun c q hq => hn_ne _ _ _ (by rw [m2]; omega)
  rw [f_L_law]
  simp only [nw_O, Option.bind_some, bn_V, e1, re_V, e2, m1, nw_L, show ¬ ((1 : Int32) < 0) by decide, show (1 : Int32).toNatClampNeg = 1 by decide, decide_false, Bool.not_false, Nat.le_refl, decide_true, Bool.and_self, if_true, m2]
  refine law_loop n0 L xs hL fl_N 0 (hp_N h4 (ce_L 1 (fun _ => 0))) ⟨[], g_0, ([], (fun _ => 0, fun _ => 0, fun _ => 0, 0, 0), 0, 0, 0, [], []), fun _ => 0, ?_, ?_, ?_, ?_, ?_⟩ (Nat.zero_le _) (by simp only [fl_N]; omega)
  · refine ⟨?_, ⟨fun _ => none, ?_, fun j hj => by simp⟩, ⟨fun _ => 0, ?_⟩, ?_, ⟨fun _ => 0, ?_, rfl⟩, ?_, ⟨fun _ => 0, ?_, rfl⟩, trivial, ⟨?_, ?_, ⟨fun _ => 0, ?_, fun j _ => rfl⟩, ?_⟩, trivial, rfl, ?_⟩
    · rw [hq5 _ _ (by omega), hq _ (by omega)]; exact c0
    · rw [hq5 _ _ (by omega), hq _ (by omega)]; exact c5
    · rw [hq5 _ _ (by omega), hq _ (by omega)]; exact c6
    · rw [hq5 _ _ (by omega), hq _ (by omega)]; exact c7
    · rw [hq5 _ _ (by omega), hq _ (by omega)]; exact c8
    · rw [hq5 _ _ (by omega), hq _ (by omega)]; exact c9
    · rw [hq5 _ _ (by omega), hq _ (by omega)]; exact c10
    · rw [hq5 _ _ (by omega), hq _ (by omega)]; exact c1
    · rw [hq5 _ _ (by omega), hq _ (by omega)]; exact c2
    · rw [hq5 _ _ (by omega), hq _ (by omega)]; exact c3
    · rw [hq5 _ _ (by omega), hq _ (by omega)]; exact c4
    · show n0 + 31 ≤ (hp_N h4 _).1
      rw [hn_1, m2]; exact Nat.le_refl _
  · refine ⟨trivial, ⟨rfl, fun j hj => ?_, rfl, rfl, rfl⟩, rfl, rfl, rfl, rfl, rfl, rfl, rfl, rfl⟩
    show upd (fun _ => (0 : Int32)) 0 1 j = 0
    simp only [upd]; rw [if_neg (by omega)]
  · exact ⟨⟨Nat.le_refl _, Nat.zero_le _, fun j hj => absurd hj (Nat.not_lt_zero j), fun j => Or.inl rfl, fun j => Or.inl rfl⟩, Nat.zero_le _, Or.inl rfl, Or.inl rfl, Or.inl rfl, Nat.zero_le _, by_nil, Nat.zero_le _⟩
  · exact MH_keep (h := h4) m3 (fun q q1 q2 => hq5 _ q (by omega))
  · rw [show n0 + 30 = h4.1 by rw [m2]]; exact hn_at _ _
