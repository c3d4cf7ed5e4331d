/-! My layer. A heap is read as Hs_t: its size and, for each address, what cell the system keeps there. A method's bytecode is tied to a function on Hs_t: 'f args h = some (outcome, h2)' gives 'MX': the method, called on any machine that holds h, ends so, and the machine then holds h2. -/
abbrev Ce_t : Type := (Nat × List Value) ⊕ (Nat × (Nat → Int32)) ⊕ (Nat × (Nat → Int32)) ⊕ (Nat × (Nat → Int64)) ⊕ (Nat × (Nat → Option Nat))
abbrev ce_O (t : Nat) (fs : List Value) : Ce_t := .inl (t, fs)
abbrev ce_I (n : Nat) (f : Nat → Int32) : Ce_t := .inr (.inl (n, f))
abbrev ce_Z (n : Nat) (f : Nat → Int32) : Ce_t := .inr (.inr (.inl (n, f)))
abbrev ce_L (n : Nat) (f : Nat → Int64) : Ce_t := .inr (.inr (.inr (.inl (n, f))))
abbrev ce_R (n : Nat) (f : Nat → Option Nat) : Ce_t := .inr (.inr (.inr (.inr (n, f))))
abbrev Hs_t : Type := Nat × (Nat → Option Ce_t)
abbrev Rs_t : Type := Option (Outcome × Hs_t)
abbrev Gx_t : Type := va_G × ClassId × ClassId × ClassId × ClassId
def ex_E (G : Gx_t) (c : Ce_t) : va_E := match c with
  | .inl o => .inr o
  | .inr (.inl (n, f)) => .inl (G.2.1, n, .inl f)
  | .inr (.inr (.inl (n, f))) => .inl (G.2.2.1, n, .inl f)
  | .inr (.inr (.inr (.inl (n, f)))) => .inl (G.2.2.2.1, n, .inr (.inl f))
  | .inr (.inr (.inr (.inr (n, f)))) => .inl (G.2.2.2.2, n, .inr (.inr (.inr (.inr f))))
def ex_Ty (G : Gx_t) : List (ClassId × FieldType) := [(G.2.1, .int), (G.2.2.1, .boolean), (G.2.2.2.1, .long), (G.2.2.2.2, .object ex_El)]
def hp_S (h : Hs_t) (a : Nat) (c : Ce_t) : Hs_t := (h.1, fun q => if q = a then some c else h.2 q)
def hp_N (h : Hs_t) (c : Ce_t) : Hs_t := (h.1 + 1, fun q => if q = h.1 then some c else h.2 q)
def Rp_h (G : Gx_t) (H0 : Heap) (h : Hs_t) (H : Heap) : Prop := H.size = h.1 ∧ H0.size ≤ h.1 ∧ (∀ q : Nat, q < H0.size → H[q]? = H0[q]?) ∧ ∀ (a : Nat) (c : Ce_t), h.2 a = some c → H0.size ≤ a ∧ va_at G.1 cl_L (a, ex_E G c) H
theorem Rp_h.at1 {G : Gx_t} {H0 H : Heap} {h : Hs_t} {a : Nat} {c : Ce_t} (hR : Rp_h G H0 h H) (ha : h.2 a = some c) : va_P G.1 cl_L [(a, ex_E G c)] H := by
  intro k q hk
  cases k with
  | zero => cases hk; exact (hR.2.2.2 a c ha).2
  | succ k => simp at hk
theorem Rp_h.lt {G : Gx_t} {H0 H : Heap} {h : Hs_t} {a : Nat} {c : Ce_t} (hR : Rp_h G H0 h H) (ha : h.2 a = some c) : a < h.1 := by
  have h1 := (hR.2.2.2 a c ha).2.lt
  rw [hR.1] at h1
  exact h1
theorem Rp_h.set {G : Gx_t} {H0 H H1 : Heap} {h : Hs_t} {a : Nat} {c0 c : Ce_t} (hR : Rp_h G H0 h H) (ha : h.2 a = some c0) (he : va_at G.1 cl_L (a, ex_E G c) H1) (z : H1.size = H.size) (oq : ∀ q : Nat, q ≠ a → H1[q]? = H[q]?) : Rp_h G H0 (hp_S h a c) H1 := by
  obtain ⟨r1, r2, r3, r4⟩ := hR
  have hb := (r4 a c0 ha).1
  refine ⟨by rw [z]; exact r1, r2, fun q hq => by rw [oq q (by omega)]; exact r3 q hq, fun b d hb2 => ?_⟩
  unfold hp_S at hb2
  by_cases hq : b = a
  · subst hq
    simp at hb2
    subst hb2
    exact ⟨hb, he⟩
  · simp [hq] at hb2
    exact ⟨(r4 b d hb2).1, (r4 b d hb2).2.kept (oq b hq)⟩
theorem Rp_h.new {G : Gx_t} {H0 H H1 : Heap} {h : Hs_t} {c : Ce_t} (hR : Rp_h G H0 h H) (z : H1.size = H.size + 1) (oq : ∀ q : Nat, q < H.size → H1[q]? = H[q]?) (he : va_at G.1 cl_L (H.size, ex_E G c) H1) : Rp_h G H0 (hp_N h c) H1 := by
  obtain ⟨r1, r2, r3, r4⟩ := hR
  have hl : ∀ b d, h.2 b = some d → b < H.size := fun b d hb => (r4 b d hb).2.lt
  rw [← r1] at r2
  refine ⟨by rw [z, r1]; rfl, by show _ ≤ h.1 + 1; omega, fun q hq => by rw [oq q (by omega)]; exact r3 q hq, fun b d hb2 => ?_⟩
  unfold hp_N at hb2
  by_cases hq : b = h.1
  · subst hq
    simp at hb2
    subst hb2
    rw [← r1]
    exact ⟨r2, he⟩
  · simp [hq] at hb2
    exact ⟨(r4 b d hb2).1, (r4 b d hb2).2.kept (oq b (hl b d hb2))⟩
/-! The functions' words. -/
def in_R (i : Int32) (n : Nat) : Bool := !decide (i < 0) && decide (i.toNatClampNeg < n)
theorem in_R_in {i : Int32} {n : Nat} (h : in_R i n = true) : vp_in i n := by
  simp only [in_R, Bool.and_eq_true, Bool.not_eq_true', decide_eq_false_iff_not, decide_eq_true_eq] at h
  rintro (q | q)
  · exact h.1 q
  · exact absurd h.2 (by omega)
def fd_V (ts : List Nat) (k : Nat) (h : Hs_t) (a : Nat) : Option Value := match h.2 a with
  | some (.inl (t, fs)) => if ts.contains t then fs[k]? else none
  | _ => none
def fd_I (ts : List Nat) (k : Nat) (h : Hs_t) (a : Nat) : Option Int32 := match fd_V ts k h a with
  | some (.int x) => some x
  | _ => none
def fd_A (ts : List Nat) (k : Nat) (h : Hs_t) (a : Nat) : Option Nat := match fd_V ts k h a with
  | some (.ref x) => some x
  | _ => none
def pt_V (ts : List Nat) (k : Nat) (h : Hs_t) (a : Nat) (v : Value) : Option Hs_t := match h.2 a with
  | some (.inl (t, fs)) => if ts.contains t && decide (k < fs.length) then some (hp_S h a (ce_O t (fs.set k v))) else none
  | _ => none
def is_Z (x : Int32) : Bool := decide (x = 0) || decide (x = 1)
def pt_Z (ts : List Nat) (k : Nat) (h : Hs_t) (a : Nat) (x : Int32) : Option Hs_t := if is_Z x then pt_V ts k h a (.int x) else none
def ar_I (h : Hs_t) (a : Nat) (i : Int32) : Option Int32 := match h.2 a with
  | some (.inr (.inl (n, f))) => if in_R i n then some (f i.toNatClampNeg) else none
  | _ => none
def ar_Z (h : Hs_t) (a : Nat) (i : Int32) : Option Int32 := match h.2 a with
  | some (.inr (.inr (.inl (n, f)))) => if in_R i n then some (f i.toNatClampNeg) else none
  | _ => none
def ar_L (h : Hs_t) (a : Nat) (i : Int32) : Option Int64 := match h.2 a with
  | some (.inr (.inr (.inr (.inl (n, f))))) => if in_R i n then some (f i.toNatClampNeg) else none
  | _ => none
def ar_R (h : Hs_t) (a : Nat) (i : Int32) : Option (Option Nat) := match h.2 a with
  | some (.inr (.inr (.inr (.inr (n, f))))) => if in_R i n then some (f i.toNatClampNeg) else none
  | _ => none
def as_I (h : Hs_t) (a : Nat) (i x : Int32) : Option Hs_t := match h.2 a with
  | some (.inr (.inl (n, f))) => if in_R i n then some (hp_S h a (ce_I n (upd f i.toNatClampNeg x))) else none
  | _ => none
def as_Z (h : Hs_t) (a : Nat) (i x : Int32) : Option Hs_t := match h.2 a with
  | some (.inr (.inr (.inl (n, f)))) => if in_R i n && is_Z x then some (hp_S h a (ce_Z n (upd f i.toNatClampNeg x))) else none
  | _ => none
def as_L (h : Hs_t) (a : Nat) (i : Int32) (x : Int64) : Option Hs_t := match h.2 a with
  | some (.inr (.inr (.inr (.inl (n, f))))) => if in_R i n then some (hp_S h a (ce_L n (vp_updL f i.toNatClampNeg x))) else none
  | _ => none
def tg_O (h : Hs_t) (a : Nat) : Option Nat := match h.2 a with
  | some (.inl (t, _)) => some t
  | _ => none
def as_R (ts : List Nat) (h : Hs_t) (a : Nat) (i : Int32) (x : Nat) : Option Hs_t := match h.2 a with
  | some (.inr (.inr (.inr (.inr (n, f))))) => if in_R i n && (match tg_O h x with | some t => ts.contains t | none => false) then some (hp_S h a (ce_R n (va_up f i.toNatClampNeg (some x)))) else none
  | _ => none
def ln_A (h : Hs_t) (a : Nat) : Option Int32 := match h.2 a with
  | some (.inr (.inl (n, _))) => some (Int32.ofNat n)
  | some (.inr (.inr (.inl (n, _)))) => some (Int32.ofNat n)
  | some (.inr (.inr (.inr (.inl (n, _))))) => some (Int32.ofNat n)
  | some (.inr (.inr (.inr (.inr (n, _))))) => some (Int32.ofNat n)
  | _ => none
def cp_I (h : Hs_t) (a : Nat) (sp : Int32) (b : Nat) (dp n : Int32) : Option Hs_t := match h.2 a, h.2 b with
  | some (.inr (.inl (n0, f))), some (.inr (.inl (n1, g))) => if !decide (sp < 0) && !decide (dp < 0) && !decide (n < 0) && decide (sp.toNatClampNeg + n.toNatClampNeg ≤ n0) && decide (dp.toNatClampNeg + n.toNatClampNeg ≤ n1) then some (hp_S h b (ce_I n1 (va_cpy f g sp.toNatClampNeg dp.toNatClampNeg n.toNatClampNeg))) else none
  | _, _ => none
def bd_I (F : Rs_t) (k : Int32 → Hs_t → Rs_t) : Rs_t := match F with
  | some (.returned (some (.int v)), h) => k v h
  | some (.threw x, h) => some (.threw x, h)
  | _ => none
def bd_L (F : Rs_t) (k : Int64 → Hs_t → Rs_t) : Rs_t := match F with
  | some (.returned (some (.long v)), h) => k v h
  | some (.threw x, h) => some (.threw x, h)
  | _ => none
def bd_A (F : Rs_t) (k : Nat → Hs_t → Rs_t) : Rs_t := match F with
  | some (.returned (some (.ref v)), h) => k v h
  | some (.threw x, h) => some (.threw x, h)
  | _ => none
def bd_V (F : Rs_t) (k : Hs_t → Rs_t) : Rs_t := match F with
  | some (.returned none, h) => k h
  | some (.threw x, h) => some (.threw x, h)
  | _ => none
def re_I (v : Int32) (h : Hs_t) : Rs_t := some (.returned (some (.int v)), h)
def re_Z (v : Int32) (h : Hs_t) : Rs_t := if is_Z v then some (.returned (some (.int v)), h) else none
def re_L (v : Int64) (h : Hs_t) : Rs_t := some (.returned (some (.long v)), h)
def re_A (v : Nat) (h : Hs_t) : Rs_t := some (.returned (some (.ref v)), h)
def re_V (h : Hs_t) : Rs_t := some (.returned none, h)
def re_T (x : Nat) (h : Hs_t) : Rs_t := some (.threw x, h)
