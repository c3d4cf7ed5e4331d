/-! A step of the law. -/
def LI (b : Nat) (h : Hs_t) : Prop := ∃ as g w fo, RTw b as h w ∧ RWw g w ∧ wv_O w ∧ MH (b + 11) g h = h ∧ h.2 (b + 30) = some (ce_L 1 fo)
theorem MH_keep {m : Nat} {g : Mg_t} {h h' : Hs_t} (e : MH m g h = h) (hq : ∀ q, m ≤ q → q < m + 19 → h'.2 q = h.2 q) : MH m g h' = h' := by
  have e2 : ∀ q, (MH m g h).2 q = h.2 q := fun q => by rw [e]
  obtain ⟨n, f⟩ := h'
  simp only [MH, Prod.mk.injEq, true_and]
  funext q
  by_cases hm : m ≤ q ∧ q < m + 19
  · rw [if_pos hm]
    have := e2 q
    simp only [MH] at this
    rw [if_pos hm] at this
    rw [this]
    exact (hq q hm.1 hm.2).symm
  · rw [if_neg hm]
theorem MH_out {m : Nat} {g : Mg_t} {h : Hs_t} {q : Nat} (hq : q < m ∨ m + 19 ≤ q) : (MH m g h).2 q = h.2 q := by
  simp only [MH]; rw [if_neg (by omega)]
theorem MH_MH {m : Nat} {g : Mg_t} {h : Hs_t} : MH m g (MH m g h) = MH m g h := by
  simp only [MH, Prod.mk.injEq, true_and]
  funext q; split
  · rfl
  · rfl
theorem RT.mh {b : Nat} {as : List Nat} {h : Hs_t} {w : Wd_t} (hT : RTw b as h w) (g : Mg_t) : RTw b as (MH (b + 11) g h) w := by
  obtain ⟨a1, a2, a3, a4, a5, a6, a7, a8, a9, a10, a11, a12⟩ := hT
  refine ⟨?_, ?_, ?_, ?_, ?_, ?_, ?_, a8.frame a10 fun q q1 q2 => MH_out (by omega), a9.frame fun q q1 q2 => MH_out (by omega), a10, a11, a12⟩
  · rw [MH_out (by omega)]; exact a1
  · rw [MH_out (by omega)]; exact a2
  · rw [MH_out (by omega)]; exact a3
  · rw [MH_out (by omega)]; exact a4
  · rw [MH_out (by omega)]; exact a5
  · rw [MH_out (by omega)]; exact a6
  · rw [MH_out (by omega)]; exact a7
theorem RT.out {b : Nat} {as : List Nat} {h : Hs_t} {w : Wd_t} (hT : RTw b as h w) (c : Ce_t) : RTw b as (hp_S h (b + 30) c) w := by
  obtain ⟨a1, a2, a3, a4, a5, a6, a7, a8, a9, a10, a11, a12⟩ := hT
  refine ⟨?_, ?_, ?_, ?_, ?_, ?_, ?_, a8.frame a10 fun q q1 q2 => hp_ne _ _ _ _ (by omega), a9.frame fun q q1 q2 => hp_ne _ _ _ _ (by omega), a10, a11, a12⟩
  · rw [hp_ne _ _ _ _ (by omega)]; exact a1
  · rw [hp_ne _ _ _ _ (by omega)]; exact a2
  · rw [hp_ne _ _ _ _ (by omega)]; exact a3
  · rw [hp_ne _ _ _ _ (by omega)]; exact a4
  · rw [hp_ne _ _ _ _ (by omega)]; exact a5
  · rw [hp_ne _ _ _ _ (by omega)]; exact a6
  · rw [hp_ne _ _ _ _ (by omega)]; exact a7
theorem LI.mk {b : Nat} {as : List Nat} {h : Hs_t} {g : Mg_t} {w : Wd_t} {fo : Nat → Int64} (h1 : RTw b as h w) (h2 : RWw g w) (h3 : wv_O w) (h4 : h.2 (b + 30) = some (ce_L 1 fo)) : LI b (MH (b + 11) g h) := ⟨as, g, w, fo, RT.mh h1 g, h2, h3, MH_MH, by rw [MH_out (by omega)]; exact h4⟩
theorem lg_0 (v : Int64) : lg_cmp v v = 0 := by simp [lg_cmp]
theorem M_thr (m : Nat) (g : Mg_t) (h : Hs_t) : f_M_thrown m (MH m g h) = re_I (g.1 0) (MH m g h) := by
  rw [f_M_thrown]; simp only [mI_0, mP_0, mI_4, mP_4, mI_5, mP_5, mI_6, mP_6, mI_20, mP_20, mI_21, mP_21, mI_22, mP_22, mI_23, mP_23, mI_25, mP_25, mI_27, mP_27, mR_1, mG_1, mS_1, mR_2, mG_2, mS_2, mR_3, mG_3, mS_3, mR_7, mG_7, mS_7, mR_8, mG_8, mS_8, mR_9, mG_9, mS_9, mR_10, mG_10, mS_10, mR_11, mG_11, mS_11, mR_12, mG_12, mS_12, mR_13, mG_13, mS_13, mR_14, mG_14, mS_14, mR_15, mG_15, mS_15, mR_16, mG_16, mS_16, mR_17, mG_17, mS_17, mR_18, mG_18, mS_18, mR_19, mG_19, mS_19, mR_24, mG_24, mS_24, mR_26, mG_26, mS_26, mK_8, gS_1, gS_2, gA_1, gA_2, Option.bind_some, Option.bind_none]
theorem J_int {b : Nat} {h : Hs_t} {g : Mg_t} {w' : Wd_t} {fo : Nat → Int64} {FT : Rs_t} {FMf : Hs_t → Rs_t} {KX : Nat → Nat → Hs_t → Rs_t} {o : Option Value ⊕ Nat} {cf : Nat → Int32} (h1 : TR b h FT o w') (h2 : ∀ hh, MO (b + 11) hh (FMf (MH (b + 11) g hh)) o cf (some (.int 0)) w') (ho : (∃ v, o = .inl (some (.int v))) ∨ ∃ t, o = .inr t ∧ (∀ x hx, KX t x hx = re_I (cf t) hx) ∧ cf t ≠ 0) (hMH : MH (b + 11) g h = h) (hout : h.2 (b + 30) = some (ce_L 1 fo)) (hv' : wv_O w') (rest : Hs_t → Rs_t) : ∃ h3, LI b h3 ∧ bn_I (bh_I FT (fun v1 h1 => (as_L h1 (b + 30) 0 v1.toInt64).bind fun h2 => re_I 0 h2) KX) (fun v87 h61 => (ck_T [8] h61 (b + 11)).bind fun _ => bn_I (FMf h61) (fun v90 h62 => (ck_T [8] h62 (b + 11)).bind fun _ => bn_I (f_M_thrown (b + 11) h62) (fun v91 h63 => if v91 = v87 then (if v87 = 0 then ((ar_L h63 (b + 30) 0).bind fun v92 => if (lg_cmp v92 v90.toInt64) = 0 then rest h63 else none) else rest h63) else none))) = rest h3 := by
  rcases ho with ⟨v, rfl⟩ | ⟨t, rfl, hk, hz⟩
  · obtain ⟨h', as', e1, e2, e3⟩ := h1
    have ho' : h'.2 (b + 30) = some (ce_L 1 fo) := by rw [e3 _ (by omega) (by omega)]; exact hout
    have hk1 : MH (b + 11) g (hp_S h' (b + 30) (ce_L 1 (vp_updL fo 0 v.toInt64))) = hp_S h' (b + 30) (ce_L 1 (vp_updL fo 0 v.toInt64)) := MH_keep hMH (fun q q1 q2 => by rw [hp_ne _ _ _ _ (by omega)]; exact e3 q (by omega) (by omega))
    obtain ⟨g', q1, q2, q3⟩ := h2 (hp_S h' (b + 30) (ce_L 1 (vp_updL fo 0 v.toInt64)))
    rw [hk1] at q1
    have hck : ck_T [8] (hp_S h' (b + 30) (ce_L 1 (vp_updL fo 0 v.toInt64))) (b + 11) = some 8 := by rw [← hk1]; exact mK_8 _ _ _
    refine ⟨MH (b + 11) g' (hp_S h' (b + 30) (ce_L 1 (vp_updL fo 0 v.toInt64))), LI.mk (RT.out e2 _) q2 hv' (hp_at _ _ _), ?_⟩
    rw [e1]
    simp only [bh_I, as_L, ho', show in_R 0 1 = true by decide, if_true, Option.bind_some, re_I, bn_I, show (0 : Int32).toNatClampNeg = 0 by decide, hck, q1, mK_8, M_thr, q3, ar_L]
    rw [MH_out (by omega), hp_at]
    simp only [show in_R 0 1 = true by decide, if_true, Option.bind_some, vp_updL, lg_0]
  · obtain ⟨x, h', as', e1, e2, e3, e4⟩ := h1
    have ho' : h'.2 (b + 30) = some (ce_L 1 fo) := by rw [e4 _ (by omega) (by omega)]; exact hout
    have hk1 : MH (b + 11) g h' = h' := MH_keep hMH (fun q q1 q2 => e4 q (by omega) (by omega))
    obtain ⟨g', q1, q2, q3⟩ := h2 h'
    rw [hk1] at q1
    have hck : ck_T [8] h' (b + 11) = some 8 := by rw [← hk1]; exact mK_8 _ _ _
    refine ⟨MH (b + 11) g' h', LI.mk e3 q2 hv' ho', ?_⟩
    rw [e1]
    simp only [bh_I, e2, Option.bind_some, hk, re_I, bn_I, hck, q1, mK_8, M_thr, q3, if_true, hz, if_false]
theorem J_long {b : Nat} {h : Hs_t} {g : Mg_t} {w' : Wd_t} {fo : Nat → Int64} {FT : Rs_t} {FMf : Hs_t → Rs_t} {KX : Nat → Nat → Hs_t → Rs_t} {o : Option Value ⊕ Nat} {cf : Nat → Int32} (h1 : TR b h FT o w') (h2 : ∀ hh, MO (b + 11) hh (FMf (MH (b + 11) g hh)) o cf (some (.long 0)) w') (ho : (∃ v, o = .inl (some (.long v))) ∨ ∃ t, o = .inr t ∧ (∀ x hx, KX t x hx = re_I (cf t) hx) ∧ cf t ≠ 0) (hMH : MH (b + 11) g h = h) (hout : h.2 (b + 30) = some (ce_L 1 fo)) (hv' : wv_O w') (rest : Hs_t → Rs_t) : ∃ h3, LI b h3 ∧ bn_I (bh_L FT (fun v1 h1 => (as_L h1 (b + 30) 0 v1).bind fun h2 => re_I 0 h2) KX) (fun v87 h61 => (ck_T [8] h61 (b + 11)).bind fun _ => bn_L (FMf h61) (fun v90 h62 => (ck_T [8] h62 (b + 11)).bind fun _ => bn_I (f_M_thrown (b + 11) h62) (fun v91 h63 => if v91 = v87 then (if v87 = 0 then ((ar_L h63 (b + 30) 0).bind fun v92 => if (lg_cmp v92 v90) = 0 then rest h63 else none) else rest h63) else none))) = rest h3 := by
  rcases ho with ⟨v, rfl⟩ | ⟨t, rfl, hk, hz⟩
  · obtain ⟨h', as', e1, e2, e3⟩ := h1
    have ho' : h'.2 (b + 30) = some (ce_L 1 fo) := by rw [e3 _ (by omega) (by omega)]; exact hout
    have hk1 : MH (b + 11) g (hp_S h' (b + 30) (ce_L 1 (vp_updL fo 0 v))) = hp_S h' (b + 30) (ce_L 1 (vp_updL fo 0 v)) := MH_keep hMH (fun q q1 q2 => by rw [hp_ne _ _ _ _ (by omega)]; exact e3 q (by omega) (by omega))
    obtain ⟨g', q1, q2, q3⟩ := h2 (hp_S h' (b + 30) (ce_L 1 (vp_updL fo 0 v)))
    rw [hk1] at q1
    have hck : ck_T [8] (hp_S h' (b + 30) (ce_L 1 (vp_updL fo 0 v))) (b + 11) = some 8 := by rw [← hk1]; exact mK_8 _ _ _
    refine ⟨MH (b + 11) g' (hp_S h' (b + 30) (ce_L 1 (vp_updL fo 0 v))), LI.mk (RT.out e2 _) q2 hv' (hp_at _ _ _), ?_⟩
    rw [e1]
    simp only [bh_L, as_L, ho', show in_R 0 1 = true by decide, if_true, Option.bind_some, re_I, bn_I, bn_L, show (0 : Int32).toNatClampNeg = 0 by decide, hck, q1, mK_8, M_thr, q3, ar_L]
    rw [MH_out (by omega), hp_at]
    simp only [show in_R 0 1 = true by decide, if_true, Option.bind_some, vp_updL, lg_0]
  · obtain ⟨x, h', as', e1, e2, e3, e4⟩ := h1
    have ho' : h'.2 (b + 30) = some (ce_L 1 fo) := by rw [e4 _ (by omega) (by omega)]; exact hout
    have hk1 : MH (b + 11) g h' = h' := MH_keep hMH (fun q q1 q2 => e4 q (by omega) (by omega))
    obtain ⟨g', q1, q2, q3⟩ := h2 h'
    rw [hk1] at q1
    have hck : ck_T [8] h' (b + 11) = some 8 := by rw [← hk1]; exact mK_8 _ _ _
    refine ⟨MH (b + 11) g' h', LI.mk e3 q2 hv' ho', ?_⟩
    rw [e1]
    simp only [bh_L, e2, Option.bind_some, hk, re_I, bn_I, bn_L, hck, q1, mK_8, M_thr, q3, if_true, hz, if_false]
theorem J_void {b : Nat} {h : Hs_t} {g : Mg_t} {w' : Wd_t} {fo : Nat → Int64} {FT : Rs_t} {FMf : Hs_t → Rs_t} {KX : Nat → Nat → Hs_t → Rs_t} {o : Option Value ⊕ Nat} {cf : Nat → Int32} (h1 : TR b h FT o w') (h2 : ∀ hh, MO (b + 11) hh (FMf (MH (b + 11) g hh)) o cf none w') (ho : o = .inl none ∨ ∃ t, o = .inr t ∧ (∀ x hx, KX t x hx = re_I (cf t) hx)) (hMH : MH (b + 11) g h = h) (hout : h.2 (b + 30) = some (ce_L 1 fo)) (hv' : wv_O w') (rest : Hs_t → Rs_t) : ∃ h3, LI b h3 ∧ bn_I (bh_V FT (fun h1 => re_I 0 h1) KX) (fun v87 h61 => (ck_T [8] h61 (b + 11)).bind fun _ => bn_V (FMf h61) (fun h62 => (ck_T [8] h62 (b + 11)).bind fun _ => bn_I (f_M_thrown (b + 11) h62) (fun v91 h63 => if v91 = v87 then rest h63 else none))) = rest h3 := by
  rcases ho with rfl | ⟨t, rfl, hk⟩
  · obtain ⟨h', as', e1, e2, e3⟩ := h1
    have ho' : h'.2 (b + 30) = some (ce_L 1 fo) := by rw [e3 _ (by omega) (by omega)]; exact hout
    have hk1 : MH (b + 11) g h' = h' := MH_keep hMH (fun q q1 q2 => e3 q (by omega) (by omega))
    obtain ⟨g', q1, q2, q3⟩ := h2 h'
    rw [hk1] at q1
    have hck : ck_T [8] h' (b + 11) = some 8 := by rw [← hk1]; exact mK_8 _ _ _
    refine ⟨MH (b + 11) g' h', LI.mk e2 q2 hv' ho', ?_⟩
    rw [e1]
    simp only [bh_V, Option.bind_some, re_I, bn_I, bn_V, hck, q1, mK_8, M_thr, q3, if_true]
  · obtain ⟨x, h', as', e1, e2, e3, e4⟩ := h1
    have ho' : h'.2 (b + 30) = some (ce_L 1 fo) := by rw [e4 _ (by omega) (by omega)]; exact hout
    have hk1 : MH (b + 11) g h' = h' := MH_keep hMH (fun q q1 q2 => e4 q (by omega) (by omega))
    obtain ⟨g', q1, q2, q3⟩ := h2 h'
    rw [hk1] at q1
    have hck : ck_T [8] h' (b + 11) = some 8 := by rw [← hk1]; exact mK_8 _ _ _
    refine ⟨MH (b + 11) g' h', LI.mk e3 q2 hv' ho', ?_⟩
    rw [e1]
    simp only [bh_V, e2, Option.bind_some, hk, re_I, bn_I, bn_V, hck, q1, mK_8, M_thr, q3, if_true]
theorem J_eq {b : Nat} {h : Hs_t} {g : Mg_t} {w' : Wd_t} {fo : Nat → Int64} {FT : Rs_t} {FMf : Hs_t → Rs_t} {v : Int32} (h1 : TR b h FT (.inl (some (.int v))) w') (h2 : ∀ hh, MR (b + 11) hh (FMf (MH (b + 11) g hh)) (some (.int v)) 0 w') (hMH : MH (b + 11) g h = h) (hout : h.2 (b + 30) = some (ce_L 1 fo)) (hv' : wv_O w') (rest : Hs_t → Rs_t) : ∃ h3, LI b h3 ∧ bn_I FT (fun v87 h61 => (ck_T [8] h61 (b + 11)).bind fun _ => bn_I (FMf h61) (fun v90 h62 => if v87 = v90 then rest h62 else none)) = rest h3 := by
  obtain ⟨h', as', e1, e2, e3⟩ := h1
  have ho' : h'.2 (b + 30) = some (ce_L 1 fo) := by rw [e3 _ (by omega) (by omega)]; exact hout
  have hk1 : MH (b + 11) g h' = h' := MH_keep hMH (fun q q1 q2 => e3 q (by omega) (by omega))
  obtain ⟨g', q1, q2, q3⟩ := h2 h'
  rw [hk1] at q1
  have hck : ck_T [8] h' (b + 11) = some 8 := by rw [← hk1]; exact mK_8 _ _ _
  refine ⟨MH (b + 11) g' h', LI.mk e2 q2 hv' ho', ?_⟩
  rw [e1]
  simp only [Option.bind_some, bn_I, hck, q1, if_true]
theorem J_vv {b : Nat} {h : Hs_t} {g : Mg_t} {w' : Wd_t} {fo : Nat → Int64} {FT : Rs_t} {FMf : Hs_t → Rs_t} (h1 : TR b h FT (.inl none) w') (h2 : ∀ hh, MR (b + 11) hh (FMf (MH (b + 11) g hh)) none 0 w') (hMH : MH (b + 11) g h = h) (hout : h.2 (b + 30) = some (ce_L 1 fo)) (hv' : wv_O w') (rest : Hs_t → Rs_t) : ∃ h3, LI b h3 ∧ bn_V FT (fun h61 => (ck_T [8] h61 (b + 11)).bind fun _ => bn_V (FMf h61) (fun h62 => rest h62)) = rest h3 := by
  obtain ⟨h', as', e1, e2, e3⟩ := h1
  have ho' : h'.2 (b + 30) = some (ce_L 1 fo) := by rw [e3 _ (by omega) (by omega)]; exact hout
  have hk1 : MH (b + 11) g h' = h' := MH_keep hMH (fun q q1 q2 => e3 q (by omega) (by omega))
  obtain ⟨g', q1, q2, q3⟩ := h2 h'
  rw [hk1] at q1
  have hck : ck_T [8] h' (b + 11) = some 8 := by rw [← hk1]; exact mK_8 _ _ _
  refine ⟨MH (b + 11) g' h', LI.mk e2 q2 hv' ho', ?_⟩
  rw [e1]
  simp only [Option.bind_some, bn_V, hck, q1]
