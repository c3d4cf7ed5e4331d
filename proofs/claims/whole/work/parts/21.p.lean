/-! The tower as numbers and lists. A source: its bytes, where portions begin, what is broken, how many bytes it has, how many are taken. A layer: buffer (room, given since the mark, to give, mark), pushback (room, bytes, the next first), limit (left, left at the mark), code (key, coded, coded at the mark), lines (ends, ends at the mark, last was 13, the same at the mark). -/
abbrev Sr_t : Type := (Nat → Int32) × (Nat → Int32) × (Nat → Int32) × Nat × Nat
abbrev Ly_t : Type := (Nat × List Int32 × List Int32 × Option Nat) ⊕ (Nat × List Int32) ⊕ (Nat × Nat) ⊕ (Int32 × Int32 × Int32) ⊕ (Int32 × Int32 × Int32 × Int32)
abbrev ly_B (rm : Nat) (kp tg : List Int32) (mq : Option Nat) : Ly_t := .inl (rm, kp, tg, mq)
abbrev ly_P (rm : Nat) (st : List Int32) : Ly_t := .inr (.inl (rm, st))
abbrev ly_M (lf lm : Nat) : Ly_t := .inr (.inr (.inl (lf, lm)))
abbrev ly_C (key cd cm : Int32) : Ly_t := .inr (.inr (.inr (.inl (key, cd, cm))))
abbrev ly_N (n nm cr crm : Int32) : Ly_t := .inr (.inr (.inr (.inr (n, nm, cr, crm))))
def pe_N (bg : Nat → Int32) (c t : Nat) : Nat → Nat → Nat
  | 0, e => e
  | k + 1, e => if e < c ∧ (e = t ∨ bg e = 0) then pe_N bg c t k (e + 1) else e
theorem pe_ge (bg : Nat → Int32) (c t : Nat) (k : Nat) : ∀ e, e ≤ pe_N bg c t k e := by
  induction k with
  | zero => intro e; exact Nat.le_refl _
  | succ k ih => intro e; simp only [pe_N]; split; (have := ih (e + 1); omega); omega
theorem pe_le (bg : Nat → Int32) (c t : Nat) (k : Nat) : ∀ e, e ≤ c → pe_N bg c t k e ≤ c := by
  induction k with
  | zero => intro e h; exact h
  | succ k ih => intro e h; simp only [pe_N]; split; (rename_i h2; exact ih (e + 1) (by omega)); omega
/-- how many bytes the source's portion still has -/
def pl_N (s : Sr_t) : Nat := pe_N s.2.1 s.2.2.2.1 s.2.2.2.2 (s.2.2.2.1 - s.2.2.2.2) s.2.2.2.2 - s.2.2.2.2
theorem pl_le (s : Sr_t) (h : s.2.2.2.2 ≤ s.2.2.2.1) : s.2.2.2.2 + pl_N s ≤ s.2.2.2.1 := by
  have h1 := pe_le s.2.1 s.2.2.2.1 s.2.2.2.2 (s.2.2.2.1 - s.2.2.2.2) s.2.2.2.2 h
  have h2 := pe_ge s.2.1 s.2.2.2.1 s.2.2.2.2 (s.2.2.2.1 - s.2.2.2.2) s.2.2.2.2
  unfold pl_N; omega
/-- a buffer gives -/
def gv_B (rm : Nat) (kp tg : List Int32) (mq : Option Nat) (n : Nat) : Ly_t := match mq with
  | none => ly_B rm [] (tg.drop n) none
  | some l => if l < (kp ++ tg.take n).length then ly_B rm [] (tg.drop n) none else ly_B rm (kp ++ tg.take n) (tg.drop n) (some l)
def cd_N (key : Int32) : Int32 → List Int32 → List Int32
  | _, [] => []
  | c, b :: bs => (b ^^^ ((key + c) &&& 255)) :: cd_N key (c + 1) bs
/-- lines: the number and whether the last was 13, after a byte -/
def ln_1 (z : Int32 × Int32) (b : Int32) : Int32 × Int32 := (if b = 13 ∨ (b = 10 ∧ z.2 = 0) then z.1 + 1 else z.1, if b = 13 then 1 else 0)
abbrev Rq_t : Type := Option (List Int32) × List Ly_t × Sr_t
/-- a request of n bytes -/
def rq : List Ly_t → Nat → Sr_t → Rq_t
  | [], n, s => if s.2.2.1 s.2.2.2.2 ≠ 0 then (none, [], s) else (some (sl s.1 s.2.2.2.2 (min n (pl_N s))), [], (s.1, s.2.1, s.2.2.1, s.2.2.2.1, s.2.2.2.2 + min n (pl_N s)))
  | .inl (rm, kp, tg, mq) :: ls, n, s => match tg with
    | [] => if rm ≤ n ∧ mq = none then ((rq ls n s).1, ly_B rm kp [] mq :: (rq ls n s).2.1, (rq ls n s).2.2) else match rq ls rm s with
      | (some (b :: bs), ls1, s1) => (some ((b :: bs).take n), gv_B rm kp (b :: bs) mq n :: ls1, s1)
      | (r, ls1, s1) => (r, ly_B rm kp [] mq :: ls1, s1)
    | t :: tg => (some ((t :: tg).take n), gv_B rm kp (t :: tg) mq n :: ls, s)
  | .inr (.inl (rm, st)) :: ls, n, s => match st with
    | [] => ((rq ls n s).1, ly_P rm [] :: (rq ls n s).2.1, (rq ls n s).2.2)
    | b :: st => (some ((b :: st).take n), ly_P rm ((b :: st).drop n) :: ls, s)
  | .inr (.inr (.inl (lf, lm))) :: ls, n, s => if lf = 0 then (some [], ly_M lf lm :: ls, s) else match rq ls (min n lf) s with
    | (none, ls1, s1) => (none, ly_M lf lm :: ls1, s1)
    | (some bs, ls1, s1) => (some bs, ly_M (lf - bs.length) lm :: ls1, s1)
  | .inr (.inr (.inr (.inl (key, cd, cm)))) :: ls, n, s => match rq ls n s with
    | (none, ls1, s1) => (none, ly_C key cd cm :: ls1, s1)
    | (some bs, ls1, s1) => (some (cd_N key cd bs), ly_C key (cd + ni bs.length) cm :: ls1, s1)
  | .inr (.inr (.inr (.inr (e, em, cr, crm)))) :: ls, n, s => match rq ls n s with
    | (none, ls1, s1) => (none, ly_N e em cr crm :: ls1, s1)
    | (some bs, ls1, s1) => (some bs, ly_N (bs.foldl ln_1 (e, cr)).1 em (bs.foldl ln_1 (e, cr)).2 crm :: ls1, s1)
/-- bytes 0 .. 255 -/
def by_O (b : Int32) : Prop := ∃ n, n < 256 ∧ b = ni n
def by_A (bs : List Int32) : Prop := ∀ b ∈ bs, by_O b
/-- what is still to be given -/
def ph_N : List Ly_t → Sr_t → Nat
  | [], s => 120 - s.2.2.2.2
  | .inl (_, _, tg, _) :: ls, s => tg.length + ph_N ls s
  | .inr (.inl (_, st)) :: ls, s => st.length + ph_N ls s
  | .inr (.inr _) :: ls, s => ph_N ls s
/-- what going back could give again -/
def kb_N : List Ly_t → Nat
  | [] => 0
  | .inl (_, kp, _, _) :: _ => kp.length
  | .inr (.inl _) :: _ => 0
  | .inr (.inr _) :: ls => kb_N ls
def ly_O : Ly_t → Prop
  | .inl (rm, kp, tg, mq) => 1 ≤ rm ∧ rm ≤ 16 ∧ by_A kp ∧ by_A tg ∧ kp.length + tg.length ≤ 32 + rm ∧ (match mq with | none => kp = [] | some l => l ≤ 32 ∧ kp.length ≤ l)
  | .inr (.inl (rm, st)) => 1 ≤ rm ∧ rm ≤ 8 ∧ by_A st ∧ st.length ≤ rm
  | .inr (.inr (.inl (lf, lm))) => lf ≤ 200 ∧ lm ≤ 200
  | .inr (.inr (.inr (.inl _))) => True
  | .inr (.inr (.inr (.inr (_, _, cr, crm)))) => (cr = 0 ∨ cr = 1) ∧ (crm = 0 ∨ crm = 1)
def sr_O (s : Sr_t) : Prop := s.2.2.2.2 ≤ s.2.2.2.1 ∧ s.2.2.2.1 ≤ 120 ∧ (∀ j, j < s.2.2.2.1 → by_O (s.1 j)) ∧ (∀ j, s.2.1 j = 0 ∨ s.2.1 j = 1) ∧ (∀ j, s.2.2.1 j = 0 ∨ s.2.2.1 j = 1)
def iv_O : List Ly_t → Sr_t → Prop
  | [], s => sr_O s
  | L :: ls, s => ly_O L ∧ ph_N (L :: ls) s + kb_N (L :: ls) ≤ 120 + 8 * (L :: ls).length ∧ iv_O ls s
theorem by_A_sl {f : Nat → Int32} {n : Nat} : ∀ {i : Nat}, (∀ j, i ≤ j → j < i + n → by_O (f j)) → by_A (sl f i n) := by
  induction n with
  | zero => intro i h b hb; simp [sl] at hb
  | succ n ih =>
    intro i h b hb
    simp only [sl, List.mem_cons] at hb
    rcases hb with hb | hb
    · subst hb; exact h i (by omega) (by omega)
    · exact ih (fun j h1 h2 => h j (by omega) (by omega)) b hb
