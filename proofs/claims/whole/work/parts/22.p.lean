theorem by_nat {b : Int32} (h : b.toBitVec.toNat < 256) : by_O b := by
  refine ⟨b.toBitVec.toNat, h, ?_⟩
  apply Int32.toBitVec.inj
  show b.toBitVec = (Int32.ofNat b.toBitVec.toNat).toBitVec
  apply BitVec.eq_of_toNat_eq
  rw [Int32.toBitVec_ofNat']
  simp
theorem by_nat2 {b : Int32} (h : by_O b) : b.toBitVec.toNat < 256 := by
  obtain ⟨n, h1, rfl⟩ := h
  show (Int32.ofNat n).toBitVec.toNat < 256
  rw [Int32.toBitVec_ofNat']
  simp only [BitVec.toNat_ofNat]
  omega
theorem an_255 (x : Int32) : (x &&& 255).toBitVec.toNat = x.toBitVec.toNat % 256 := by
  rw [Int32.toBitVec_and]
  show (x.toBitVec &&& 255#32).toNat = _
  rw [BitVec.toNat_and]
  show x.toBitVec.toNat &&& (2 ^ 8 - 1) = _
  rw [Nat.and_two_pow_sub_one_eq_mod]
theorem by_and (x : Int32) : by_O (x &&& 255) := by_nat (by rw [an_255]; omega)
theorem by_xor {a b : Int32} (ha : by_O a) (hb : by_O b) : by_O (a ^^^ b) := by
  refine by_nat ?_
  rw [Int32.toBitVec_xor, BitVec.toNat_xor]
  exact Nat.xor_lt_two_pow (n := 8) (by_nat2 ha) (by_nat2 hb)
theorem by_self {a : Int32} (ha : by_O a) : a &&& 255 = a := by
  apply Int32.toBitVec.inj
  apply BitVec.eq_of_toNat_eq
  rw [an_255]
  have := by_nat2 ha
  omega
theorem by_cod {a x : Int32} (ha : by_O a) : (a ^^^ x) &&& 255 = a ^^^ (x &&& 255) := by
  have h1 : (a ^^^ x) &&& 255 = (a &&& 255) ^^^ (x &&& 255) := by
    apply Int32.toBitVec.inj
    simp only [Int32.toBitVec_and, Int32.toBitVec_xor]
    ext i hi
    simp only [BitVec.getElem_and, BitVec.getElem_xor]
    cases a.toBitVec[i] <;> cases x.toBitVec[i] <;> cases (255 : Int32).toBitVec[i] <;> rfl
  rw [h1, by_self ha]
theorem by_cd (key : Int32) (bs : List Int32) : ∀ c, by_A bs → by_A (cd_N key c bs) := by
  induction bs with
  | nil => intro c h b hb; simp [cd_N] at hb
  | cons a bs ih =>
    intro c h b hb
    simp only [cd_N, List.mem_cons] at hb
    rcases hb with rfl | hb
    · exact by_xor (h a (by simp)) (by_and _)
    · exact ih (c + 1) (fun x hx => h x (by simp [hx])) b hb
theorem cd_len (key : Int32) (bs : List Int32) : ∀ c, (cd_N key c bs).length = bs.length := by
  induction bs with
  | nil => intro c; rfl
  | cons a bs ih => intro c; simp [cd_N, ih]
theorem ln_01 (bs : List Int32) : ∀ z : Int32 × Int32, (z.2 = 0 ∨ z.2 = 1) → ((bs.foldl ln_1 z).2 = 0 ∨ (bs.foldl ln_1 z).2 = 1) := by
  induction bs with
  | nil => intro z h; exact h
  | cons a bs ih =>
    intro z h
    simp only [List.foldl_cons]
    apply ih
    simp only [ln_1]
    split
    · exact Or.inr rfl
    · exact Or.inl rfl
theorem by_take {bs : List Int32} (n : Nat) (h : by_A bs) : by_A (bs.take n) := fun b hb => h b (List.mem_of_mem_take hb)
theorem by_drop {bs : List Int32} (n : Nat) (h : by_A bs) : by_A (bs.drop n) := fun b hb => h b (List.mem_of_mem_drop hb)
theorem by_app {a b : List Int32} (ha : by_A a) (hb : by_A b) : by_A (a ++ b) := fun x hx => (List.mem_append.mp hx).elim (ha x) (hb x)
theorem by_nil : by_A [] := fun b hb => by cases hb
/-- what a request leaves -/
def rq_K (ls : List Ly_t) (n : Nat) (s : Sr_t) (r : Rq_t) : Prop :=
  iv_O r.2.1 r.2.2 ∧ r.2.1.length = ls.length ∧ r.2.2.1 = s.1 ∧ r.2.2.2.1 = s.2.1 ∧ r.2.2.2.2.1 = s.2.2.1 ∧ r.2.2.2.2.2.1 = s.2.2.2.1 ∧
  (ph_N r.2.1 r.2.2 + kb_N r.2.1 ≤ ph_N ls s + kb_N ls) ∧ (r.1 = none → ph_N r.2.1 r.2.2 = ph_N ls s) ∧ (∀ bs, r.1 = some bs → bs.length ≤ n ∧ by_A bs ∧ ph_N r.2.1 r.2.2 + bs.length = ph_N ls s)
theorem gv_ok {rm : Nat} {kp tg : List Int32} {mq : Option Nat} {n : Nat} (h : ly_O (ly_B rm kp tg mq)) : ∃ kp' mq', gv_B rm kp tg mq n = ly_B rm kp' (tg.drop n) mq' ∧ ly_O (ly_B rm kp' (tg.drop n) mq') ∧ kp'.length ≤ kp.length + (tg.take n).length := by
  obtain ⟨h1, h2, h3, h4, h5, h6⟩ := h
  have hd : (tg.drop n).length ≤ tg.length := by simp
  have hs : (tg.take n).length + (tg.drop n).length = tg.length := by simp; omega
  cases mq with
  | none => exact ⟨[], none, rfl, ⟨h1, h2, by_nil, by_drop n h4, by simp only [List.length_nil]; omega, rfl⟩, by simp⟩
  | some l =>
    simp only [gv_B]
    by_cases hl : l < (kp ++ tg.take n).length
    · rw [if_pos hl]
      exact ⟨[], none, rfl, ⟨h1, h2, by_nil, by_drop n h4, by simp only [List.length_nil]; omega, rfl⟩, by simp⟩
    · rw [if_neg hl]
      refine ⟨_, _, rfl, ⟨h1, h2, by_app h3 (by_take n h4), by_drop n h4, by simp only [List.length_append]; omega, h6.1, by omega⟩, by simp only [List.length_append]; omega⟩
theorem rq_iv (ls : List Ly_t) : ∀ (n : Nat) (s : Sr_t), 1 ≤ n → iv_O ls s → rq_K ls n s (rq ls n s) := by
  induction ls with
  | nil =>
    intro n s hn h
    simp only [rq]
    have hp := pl_le s h.1
    have h2 := h.2.1
    split
    · exact ⟨h, rfl, rfl, rfl, rfl, rfl, Nat.le_refl _, fun _ => rfl, fun bs hb => by cases hb⟩
    · refine ⟨⟨(by show s.2.2.2.2 + min n (pl_N s) ≤ s.2.2.2.1; omega), h.2.1, h.2.2⟩, rfl, rfl, rfl, rfl, rfl, ?_, fun h => (by cases h), fun bs hb => ?_⟩
      · simp only [ph_N, kb_N]; omega
      · cases hb
        rw [sl_len]
        refine ⟨by omega, by_A_sl fun j h1 h2 => h.2.2.1 j (by omega), ?_⟩
        simp only [ph_N]
        omega
  | cons L ls ih =>
    intro n s hn h
    obtain ⟨hL, hc, hv⟩ := h
    match L, hL, hc with
    | .inl (rm, kp, tg, mq), hL, hc =>
      cases tg with
      | nil =>
        simp only [rq]
        by_cases hb : rm ≤ n ∧ mq = none
        · rw [if_pos hb]
          obtain ⟨k1, k2, k3, k4, k5, k6, k7, k8, k9⟩ := ih n s hn hv
          have hk : kp = [] := by have := hL.2.2.2.2.2; rw [hb.2] at this; exact this
          subst hk
          have hph : ph_N (rq ls n s).2.1 (rq ls n s).2.2 ≤ ph_N ls s := by
            cases hr : (rq ls n s).1 with
            | none => rw [k8 hr]; omega
            | some bs => have := (k9 bs hr).2.2; omega
          simp only [ph_N, kb_N, List.length_cons, List.length_nil, Nat.zero_add, Nat.add_zero] at hc ⊢
          refine ⟨⟨hL, by simp only [ph_N, kb_N, List.length_cons, List.length_nil]; omega, k1⟩, by simp [k2], k3, k4, k5, k6, by simp only [ph_N, kb_N, List.length_nil]; omega, fun hr => by simp only [ph_N, List.length_nil]; have := k8 hr; omega, fun bs hr => by have := k9 bs hr; simp only [ph_N, List.length_nil]; exact ⟨this.1, this.2.1, by omega⟩⟩
        · rw [if_neg hb]
          have kk := ih rm s hL.1 hv
          generalize rq ls rm s = r at kk ⊢
          obtain ⟨r, ls1, s1⟩ := r
          obtain ⟨k1, k2, k3, k4, k5, k6, k7, k8, k9⟩ := kk
          simp only at k1 k2 k3 k4 k5 k6 k7 k8 k9
          simp only [ph_N, kb_N, List.length_cons, List.length_nil, Nat.zero_add, Nat.add_zero] at hc ⊢
          match r with
          | none =>
            have h8 := k8 rfl
            exact ⟨⟨hL, by simp only [ph_N, kb_N, List.length_cons, List.length_nil]; omega, k1⟩, by simp [k2], k3, k4, k5, k6, by simp only [ph_N, kb_N, List.length_nil]; omega, fun _ => by simp only [ph_N, List.length_nil]; omega, fun bs hr => by cases hr⟩
          | some [] =>
            have h8 := (k9 [] rfl).2.2
            simp only [List.length_nil] at h8
            refine ⟨⟨hL, by simp only [ph_N, kb_N, List.length_cons, List.length_nil]; omega, k1⟩, by simp [k2], k3, k4, k5, k6, by simp only [ph_N, kb_N, List.length_nil]; omega, fun hr => (by cases hr), fun bs hr => ?_⟩
            cases hr
            exact ⟨by simp, by_nil, by simp only [ph_N, List.length_nil]; omega⟩
          | some (b :: bs) =>
            have h8 := (k9 _ rfl)
            have hL2 : ly_O (ly_B rm kp (b :: bs) mq) := ⟨hL.1, hL.2.1, hL.2.2.1, h8.2.1, by
              have h5 := hL.2.2.2.2.2
              have h6 := h8.1
              have : kp.length ≤ 32 := by
                cases mq with
                | none => rw [h5]; simp
                | some l => have : l ≤ 32 ∧ kp.length ≤ l := h5; omega
              omega, hL.2.2.2.2.2⟩
            obtain ⟨kp', mq', e1, e2, e3⟩ := gv_ok (n := n) hL2
            simp only [e1]
            have hs : ((b :: bs).take n).length + ((b :: bs).drop n).length = (b :: bs).length := by simp; omega
            have h9 := h8.2.2
            refine ⟨⟨e2, by simp only [ph_N, kb_N, List.length_cons] at *; omega, k1⟩, by simp [k2], k3, k4, k5, k6, by simp only [ph_N, kb_N] at *; omega, fun hr => (by cases hr), fun cs hr => ?_⟩
            cases hr
            exact ⟨by simp [List.length_take]; omega, by_take n h8.2.1, by simp only [ph_N, List.length_nil] at *; omega⟩
      | cons t tg =>
        simp only [rq]
        obtain ⟨kp', mq', e1, e2, e3⟩ := gv_ok (n := n) hL
        simp only [e1]
        have hs : ((t :: tg).take n).length + ((t :: tg).drop n).length = (t :: tg).length := by simp; omega
        simp only [ph_N, kb_N] at hc
        refine ⟨⟨e2, by simp only [ph_N, kb_N, List.length_cons] at *; omega, hv⟩, by simp, rfl, rfl, rfl, rfl, by simp only [ph_N, kb_N] at *; omega, fun hr => (by cases hr), fun cs hr => ?_⟩
        cases hr
        exact ⟨by simp [List.length_take]; omega, by_take n hL.2.2.2.1, by simp only [ph_N] at *; omega⟩
    | .inr (.inl (rm, st)), hL, hc =>
      cases st with
      | nil =>
        simp only [rq]
        obtain ⟨k1, k2, k3, k4, k5, k6, k7, k8, k9⟩ := ih n s hn hv
        have hph : ph_N (rq ls n s).2.1 (rq ls n s).2.2 ≤ ph_N ls s := by
          cases hr : (rq ls n s).1 with
          | none => rw [k8 hr]; omega
          | some bs => have := (k9 bs hr).2.2; omega
        simp only [ph_N, kb_N, List.length_cons, List.length_nil, Nat.zero_add, Nat.add_zero] at hc ⊢
        refine ⟨⟨hL, by simp only [ph_N, kb_N, List.length_cons, List.length_nil]; omega, k1⟩, by simp [k2], k3, k4, k5, k6, by simp only [ph_N, kb_N, List.length_nil]; omega, fun hr => by simp only [ph_N, List.length_nil]; have := k8 hr; omega, fun bs hr => by have := k9 bs hr; simp only [ph_N, List.length_nil]; exact ⟨this.1, this.2.1, by omega⟩⟩
      | cons b st =>
        simp only [rq]
        have hs : ((b :: st).take n).length + ((b :: st).drop n).length = (b :: st).length := by simp; omega
        simp only [ph_N, kb_N] at hc
        refine ⟨⟨⟨hL.1, hL.2.1, by_drop n hL.2.2.1, by have := hL.2.2.2; omega⟩, by simp only [ph_N, kb_N, List.length_cons] at *; omega, hv⟩, by simp, rfl, rfl, rfl, rfl, by simp only [ph_N, kb_N] at *; omega, fun hr => (by cases hr), fun cs hr => ?_⟩
        cases hr
        exact ⟨by simp [List.length_take]; omega, by_take n hL.2.2.1, by simp only [ph_N] at *; omega⟩
    | .inr (.inr (.inl (lf, lm))), hL, hc =>
      simp only [rq]
      by_cases h0 : lf = 0
      · rw [if_pos h0]
        exact ⟨⟨hL, hc, hv⟩, rfl, rfl, rfl, rfl, rfl, Nat.le_refl _, fun hr => (by cases hr), fun bs hr => by cases hr; exact ⟨by simp, by_nil, by simp⟩⟩
      · rw [if_neg h0]
        have kk := ih (min n lf) s (by omega) hv
        generalize rq ls (min n lf) s = r at kk ⊢
        obtain ⟨r, ls1, s1⟩ := r
        obtain ⟨k1, k2, k3, k4, k5, k6, k7, k8, k9⟩ := kk
        simp only at k1 k2 k3 k4 k5 k6 k7 k8 k9
        simp only [ph_N, kb_N, List.length_cons] at hc ⊢
        match r with
        | none => exact ⟨⟨hL, by simp only [ph_N, kb_N, List.length_cons]; omega, k1⟩, by simp [k2], k3, k4, k5, k6, k7, fun _ => k8 rfl, fun bs hr => by cases hr⟩
        | some bs =>
          refine ⟨⟨⟨by have := hL.1; omega, hL.2⟩, by simp only [ph_N, kb_N, List.length_cons]; omega, k1⟩, by simp [k2], k3, k4, k5, k6, k7, fun hr => (by cases hr), fun cs hr => ?_⟩
          cases hr
          have := k9 bs rfl
          exact ⟨by omega, this.2⟩
    | .inr (.inr (.inr (.inl (key, cd, cm)))), hL, hc =>
      simp only [rq]
      have kk := ih n s (by omega) hv
      generalize rq ls n s = r at kk ⊢
      obtain ⟨r, ls1, s1⟩ := r
      obtain ⟨k1, k2, k3, k4, k5, k6, k7, k8, k9⟩ := kk
      simp only at k1 k2 k3 k4 k5 k6 k7 k8 k9
      simp only [ph_N, kb_N, List.length_cons] at hc ⊢
      match r with
      | none => exact ⟨⟨hL, by simp only [ph_N, kb_N, List.length_cons]; omega, k1⟩, by simp [k2], k3, k4, k5, k6, k7, fun _ => k8 rfl, fun bs hr => by cases hr⟩
      | some bs =>
        refine ⟨⟨trivial, by simp only [ph_N, kb_N, List.length_cons]; omega, k1⟩, by simp [k2], k3, k4, k5, k6, k7, fun hr => (by cases hr), fun cs hr => ?_⟩
        cases hr
        have := k9 bs rfl
        rw [cd_len]
        exact ⟨by omega, by_cd _ _ _ this.2.1, this.2.2⟩
    | .inr (.inr (.inr (.inr (e, em, cr, crm)))), hL, hc =>
      simp only [rq]
      have kk := ih n s (by omega) hv
      generalize rq ls n s = r at kk ⊢
      obtain ⟨r, ls1, s1⟩ := r
      obtain ⟨k1, k2, k3, k4, k5, k6, k7, k8, k9⟩ := kk
      simp only at k1 k2 k3 k4 k5 k6 k7 k8 k9
      simp only [ph_N, kb_N, List.length_cons] at hc ⊢
      match r with
      | none => exact ⟨⟨hL, by simp only [ph_N, kb_N, List.length_cons]; omega, k1⟩, by simp [k2], k3, k4, k5, k6, k7, fun _ => k8 rfl, fun bs hr => by cases hr⟩
      | some bs =>
        refine ⟨⟨⟨ln_01 bs _ hL.1, hL.2⟩, by simp only [ph_N, kb_N, List.length_cons]; omega, k1⟩, by simp [k2], k3, k4, k5, k6, k7, fun hr => (by cases hr), fun cs hr => ?_⟩
        cases hr
        exact k9 bs rfl
