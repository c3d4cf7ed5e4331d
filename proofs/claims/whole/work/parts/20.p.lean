/-! Small numbers of the machine as natural ones. -/
def ni (n : Nat) : Int32 := Int32.ofNat n
theorem ni_lt {a b : Nat} (ha : a < 2147483648) (hb : b < 2147483648) : (ni a < ni b) = (a < b) := propext (Int32.ofNat_lt_iff_lt ha hb)
theorem ni_le {a b : Nat} (ha : a < 2147483648) (hb : b < 2147483648) : (ni a ≤ ni b) = (a ≤ b) := propext (Int32.ofNat_le_iff_le ha hb)
theorem ni_eq {a b : Nat} (ha : a < 2147483648) (hb : b < 2147483648) : (ni a = ni b) = (a = b) := by
  apply propext
  constructor
  · intro h
    have h1 : (ni a).toNatClampNeg = (ni b).toNatClampNeg := by rw [h]
    rwa [ni, ni, Int32.toNatClampNeg_ofNat_of_lt ha, Int32.toNatClampNeg_ofNat_of_lt hb] at h1
  · intro h; rw [h]
theorem ni_nat {a : Nat} (ha : a < 2147483648) : (ni a).toNatClampNeg = a := Int32.toNatClampNeg_ofNat_of_lt ha
theorem ni_add (a b : Nat) : ni a + ni b = ni (a + b) := (Int32.ofNat_add a b).symm
theorem ni_sub {a b : Nat} (h : b ≤ a) : ni a - ni b = ni (a - b) := (Int32.ofNat_sub a b h).symm
theorem ni_sub2 (a b : Nat) : ni (a + b) - ni a = ni b := by rw [ni_sub (by omega)]; congr 1; omega
theorem ni_nn {a : Nat} (ha : a < 2147483648) : ¬ (ni a < 0) := by
  show ¬ (ni a < ni 0)
  rw [ni_lt ha (by omega)]; omega
theorem ni_in {i n : Nat} (hi : i < 2147483648) : in_R (ni i) n = decide (i < n) := by
  simp [in_R, ni_nn hi, ni_nat hi]
theorem ni_in_t {i n : Nat} (hi : i < 2147483648) (h : i < n) : in_R (ni i) n = true := by simp [ni_in hi, h]
theorem ni_0 : (0 : Int32) = ni 0 := rfl
theorem ni_1 : (1 : Int32) = ni 1 := rfl
theorem ni_of {x : Int32} (h0 : ¬ x < 0) : ∃ n, x = ni n ∧ n < 2147483648 := by
  refine ⟨x.toNatClampNeg, ?_, ?_⟩
  · have h1 : (0 : Int) ≤ x.toInt := by
      rw [Int32.lt_iff_toInt_lt] at h0
      simpa using h0
    apply Int32.toInt.inj
    have h2 : x.toInt < 2147483648 := by have := Int32.toInt_lt x; simpa using this
    rw [ni, Int32.toInt_ofNat_of_lt (by rw [Int32.toNatClampNeg]; omega)]
    rw [Int32.toNatClampNeg]; omega
  · have h2 : x.toInt < 2147483648 := by have := Int32.toInt_lt x; simpa using this
    rw [Int32.toNatClampNeg]; omega
/-- the cells i .. i+n-1 -/
def sl (f : Nat → Int32) (i : Nat) : Nat → List Int32
  | 0 => []
  | n + 1 => f i :: sl f (i + 1) n
theorem sl_len (f : Nat → Int32) (n : Nat) : ∀ i, (sl f i n).length = n := by
  induction n with
  | zero => intro i; rfl
  | succ n ih => intro i; simp [sl, ih]
theorem sl_get (f : Nat → Int32) (n : Nat) : ∀ i j, j < n → (sl f i n)[j]? = some (f (i + j)) := by
  induction n with
  | zero => intro i j h; omega
  | succ n ih =>
    intro i j h
    cases j with
    | zero => simp [sl]
    | succ j => simp only [sl, List.getElem?_cons_succ]; rw [ih (i + 1) j (by omega)]; congr 2; omega
theorem sl_app (f : Nat → Int32) (b : Nat) (a : Nat) : ∀ i, sl f i (a + b) = sl f i a ++ sl f (i + a) b := by
  induction a with
  | zero => intro i; simp [sl]
  | succ a ih => intro i; rw [show a + 1 + b = (a + b) + 1 by omega]; simp only [sl, List.cons_append]; rw [ih (i + 1)]; congr 3; omega
theorem sl_snoc (f : Nat → Int32) (i n : Nat) : sl f i (n + 1) = sl f i n ++ [f (i + n)] := by rw [sl_app]; rfl
theorem sl_take (f : Nat → Int32) (i a b : Nat) (h : a ≤ b) : (sl f i b).take a = sl f i a := by
  obtain ⟨c, rfl⟩ := Nat.le.dest h
  rw [sl_app, List.take_append_of_le_length (by rw [sl_len]; omega), List.take_of_length_le (by rw [sl_len]; omega)]
theorem sl_drop (f : Nat → Int32) (i a b : Nat) (h : a ≤ b) : (sl f i b).drop a = sl f (i + a) (b - a) := by
  obtain ⟨c, rfl⟩ := Nat.le.dest h
  rw [sl_app, List.drop_append_of_le_length (by rw [sl_len]; omega), List.drop_of_length_le (by rw [sl_len]; omega)]
  simp
theorem sl_congr {f g : Nat → Int32} {n : Nat} : ∀ {i j : Nat}, (∀ k, k < n → f (i + k) = g (j + k)) → sl f i n = sl g j n := by
  induction n with
  | zero => intro i j h; rfl
  | succ n ih =>
    intro i j h
    simp only [sl]
    have h0 := h 0 (by omega)
    simp only [Nat.add_zero] at h0
    rw [h0, ih (i := i + 1) (j := j + 1) (fun k hk => by have := h (k + 1) (by omega); rw [show i + 1 + k = i + (k + 1) by omega, show j + 1 + k = j + (k + 1) by omega]; exact this)]
theorem sl_upd (f : Nat → Int32) (k : Nat) (x : Int32) (i n : Nat) (h : k < i ∨ i + n ≤ k) : sl (upd f k x) i n = sl f i n := by
  refine sl_congr fun j hj => ?_
  simp only [upd]; rw [if_neg (by omega)]
theorem sl_eq {f : Nat → Int32} {i n : Nat} {bs : List Int32} (h : sl f i n = bs) : n = bs.length := by rw [← h, sl_len]
theorem sl_at {f : Nat → Int32} {i : Nat} {bs : List Int32} (h : sl f i bs.length = bs) (j : Nat) (hj : j < bs.length) : f (i + j) = bs[j]'hj := by
  have h1 := sl_get f bs.length i j hj
  rw [h] at h1
  rw [List.getElem?_eq_getElem hj] at h1
  exact (Option.some.inj h1).symm
theorem sl_of {f : Nat → Int32} {i : Nat} {bs : List Int32} (h : ∀ j (hj : j < bs.length), f (i + j) = bs[j]'hj) : sl f i bs.length = bs := by
  apply List.ext_getElem?
  intro j
  by_cases hj : j < bs.length
  · rw [sl_get _ _ _ _ hj, List.getElem?_eq_getElem hj, h j hj]
  · rw [List.getElem?_eq_none (by rw [sl_len]; omega), List.getElem?_eq_none (by omega)]
theorem sl_cpy (f g : Nat → Int32) (sp dp n : Nat) : sl (va_cpy f g sp dp n) dp n = sl f sp n := by
  refine sl_congr fun k hk => ?_
  simp only [va_cpy]; rw [if_pos (by omega)]; congr 1; omega
theorem cpy_out (f g : Nat → Int32) (sp dp n k : Nat) (h : k < dp ∨ dp + n ≤ k) : va_cpy f g sp dp n k = g k := by
  simp only [va_cpy]; rw [if_neg (by omega)]
theorem sl_cpy_out (f g : Nat → Int32) (sp dp n i k : Nat) (h : i + k ≤ dp ∨ dp + n ≤ i) : sl (va_cpy f g sp dp n) i k = sl g i k := by
  refine sl_congr fun j hj => cpy_out f g sp dp n _ (by omega)
