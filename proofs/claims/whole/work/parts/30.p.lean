/-! The reference's heap: numbers (by field) and rows (by field). -/
abbrev Mg_t : Type := (Nat → Int32) × (Nat → Nat → Int32)
def mo (m : Nat) (g : Mg_t) : List Value := [.int (g.1 0), .ref (m + 1), .ref (m + 2), .ref (m + 3), .int (g.1 4), .int (g.1 5), .int (g.1 6), .ref (m + 4), .ref (m + 5), .ref (m + 6), .ref (m + 7), .ref (m + 8), .ref (m + 9), .ref (m + 10), .ref (m + 11), .ref (m + 12), .ref (m + 13), .ref (m + 14), .ref (m + 15), .ref (m + 16), .int (g.1 20), .int (g.1 21), .int (g.1 22), .int (g.1 23), .ref (m + 17), .int (g.1 25), .ref (m + 18), .int (g.1 27)]
def mc (m : Nat) (g : Mg_t) : Nat → Ce_t
  | 0 => ce_O 8 (mo m g)
  | 1 => ce_I 120 (g.2 1)
  | 2 => ce_Z 121 (g.2 2)
  | 3 => ce_Z 121 (g.2 3)
  | 4 => ce_I 5 (g.2 7)
  | 5 => ce_I 5 (g.2 8)
  | 6 => ce_I 5 (g.2 9)
  | 7 => ce_I 5 (g.2 10)
  | 8 => ce_Z 5 (g.2 11)
  | 9 => ce_Z 5 (g.2 12)
  | 10 => ce_I 320 (g.2 13)
  | 11 => ce_I 5 (g.2 14)
  | 12 => ce_I 5 (g.2 15)
  | 13 => ce_Z 5 (g.2 16)
  | 14 => ce_I 5 (g.2 17)
  | 15 => ce_I 5 (g.2 18)
  | 16 => ce_I 120 (g.2 19)
  | 17 => ce_I 600 (g.2 24)
  | 18 => ce_I 120 (g.2 26)
  | _ => ce_O 0 []
def MH (m : Nat) (g : Mg_t) (h : Hs_t) : Hs_t := (h.1, fun q => if m ≤ q ∧ q < m + 19 then some (mc m g (q - m)) else h.2 q)
def gS (g : Mg_t) (k : Nat) (x : Int32) : Mg_t := (upd g.1 k x, g.2)
def gA (g : Mg_t) (k : Nat) (f : Nat → Int32) : Mg_t := (g.1, va_up g.2 k f)
theorem MH_at (m : Nat) (g : Mg_t) (h : Hs_t) (j : Nat) (hj : j < 19) : (MH m g h).2 (m + j) = some (mc m g j) := by
  simp only [MH]; rw [if_pos (by omega)]; congr 2; omega
theorem MH_0 (m : Nat) (g : Mg_t) (h : Hs_t) : (MH m g h).2 m = some (ce_O 8 (mo m g)) := MH_at m g h 0 (by omega)
theorem MH_set (m : Nat) (g g' : Mg_t) (h : Hs_t) (j : Nat) (hj : j < 19) (c : Ce_t) (h1 : mc m g' j = c) (h2 : ∀ i, i < 19 → i ≠ j → mc m g' i = mc m g i) : hp_S (MH m g h) (m + j) c = MH m g' h := by
  simp only [hp_S, MH, Prod.mk.injEq, true_and]
  funext q
  by_cases hq : q = m + j
  · subst hq
    rw [if_pos rfl, if_pos (by omega), ← h1]; congr 2; omega
  · rw [if_neg hq]
    by_cases hm : m ≤ q ∧ q < m + 19
    · rw [if_pos hm, if_pos hm, h2 (q - m) (by omega) (by omega)]
    · rw [if_neg hm, if_neg hm]
theorem mc_S (m : Nat) (g : Mg_t) (k : Nat) (x : Int32) : ∀ i, i < 19 → i ≠ 0 → mc m (gS g k x) i = mc m g i := by
  intro i h1 h2
  match i, h1, h2 with | 0, _, h2 => exact absurd rfl h2 | 1, _, h2 => rfl | 2, _, h2 => rfl | 3, _, h2 => rfl | 4, _, h2 => rfl | 5, _, h2 => rfl | 6, _, h2 => rfl | 7, _, h2 => rfl | 8, _, h2 => rfl | 9, _, h2 => rfl | 10, _, h2 => rfl | 11, _, h2 => rfl | 12, _, h2 => rfl | 13, _, h2 => rfl | 14, _, h2 => rfl | 15, _, h2 => rfl | 16, _, h2 => rfl | 17, _, h2 => rfl | 18, _, h2 => rfl | i + 19, h1, _ => omega
theorem mI_0 (m : Nat) (g : Mg_t) (h : Hs_t) : fd_I [8] 0 (MH m g h) m = some (g.1 0) := by
  simp only [fd_I, fd_V, MH_0]; rfl
theorem mP_0 (m : Nat) (g : Mg_t) (h : Hs_t) (x : Int32) : pt_V [8] 0 (MH m g h) m (.int x) = some (MH m (gS g 0 x) h) := by
  simp only [pt_V, MH_0]
  rw [← MH_set m g (gS g 0 x) h 0 (by omega) (ce_O 8 (mo m (gS g 0 x))) rfl (mc_S m g _ x)]; rfl
theorem mI_4 (m : Nat) (g : Mg_t) (h : Hs_t) : fd_I [8] 4 (MH m g h) m = some (g.1 4) := by
  simp only [fd_I, fd_V, MH_0]; rfl
theorem mP_4 (m : Nat) (g : Mg_t) (h : Hs_t) (x : Int32) : pt_V [8] 4 (MH m g h) m (.int x) = some (MH m (gS g 4 x) h) := by
  simp only [pt_V, MH_0]
  rw [← MH_set m g (gS g 4 x) h 0 (by omega) (ce_O 8 (mo m (gS g 4 x))) rfl (mc_S m g _ x)]; rfl
theorem mI_5 (m : Nat) (g : Mg_t) (h : Hs_t) : fd_I [8] 5 (MH m g h) m = some (g.1 5) := by
  simp only [fd_I, fd_V, MH_0]; rfl
theorem mP_5 (m : Nat) (g : Mg_t) (h : Hs_t) (x : Int32) : pt_V [8] 5 (MH m g h) m (.int x) = some (MH m (gS g 5 x) h) := by
  simp only [pt_V, MH_0]
  rw [← MH_set m g (gS g 5 x) h 0 (by omega) (ce_O 8 (mo m (gS g 5 x))) rfl (mc_S m g _ x)]; rfl
theorem mI_6 (m : Nat) (g : Mg_t) (h : Hs_t) : fd_I [8] 6 (MH m g h) m = some (g.1 6) := by
  simp only [fd_I, fd_V, MH_0]; rfl
theorem mP_6 (m : Nat) (g : Mg_t) (h : Hs_t) (x : Int32) : pt_V [8] 6 (MH m g h) m (.int x) = some (MH m (gS g 6 x) h) := by
  simp only [pt_V, MH_0]
  rw [← MH_set m g (gS g 6 x) h 0 (by omega) (ce_O 8 (mo m (gS g 6 x))) rfl (mc_S m g _ x)]; rfl
theorem mI_20 (m : Nat) (g : Mg_t) (h : Hs_t) : fd_I [8] 20 (MH m g h) m = some (g.1 20) := by
  simp only [fd_I, fd_V, MH_0]; rfl
theorem mP_20 (m : Nat) (g : Mg_t) (h : Hs_t) (x : Int32) : pt_V [8] 20 (MH m g h) m (.int x) = some (MH m (gS g 20 x) h) := by
  simp only [pt_V, MH_0]
  rw [← MH_set m g (gS g 20 x) h 0 (by omega) (ce_O 8 (mo m (gS g 20 x))) rfl (mc_S m g _ x)]; rfl
theorem mI_21 (m : Nat) (g : Mg_t) (h : Hs_t) : fd_I [8] 21 (MH m g h) m = some (g.1 21) := by
  simp only [fd_I, fd_V, MH_0]; rfl
theorem mP_21 (m : Nat) (g : Mg_t) (h : Hs_t) (x : Int32) : pt_Z [8] 21 (MH m g h) m x = if is_Z x then some (MH m (gS g 21 x) h) else none := by
  simp only [pt_Z, pt_V, MH_0]
  split
  · rw [← MH_set m g (gS g 21 x) h 0 (by omega) (ce_O 8 (mo m (gS g 21 x))) rfl (mc_S m g _ x)]; rfl
  · rfl
theorem mI_22 (m : Nat) (g : Mg_t) (h : Hs_t) : fd_I [8] 22 (MH m g h) m = some (g.1 22) := by
  simp only [fd_I, fd_V, MH_0]; rfl
theorem mP_22 (m : Nat) (g : Mg_t) (h : Hs_t) (x : Int32) : pt_Z [8] 22 (MH m g h) m x = if is_Z x then some (MH m (gS g 22 x) h) else none := by
  simp only [pt_Z, pt_V, MH_0]
  split
  · rw [← MH_set m g (gS g 22 x) h 0 (by omega) (ce_O 8 (mo m (gS g 22 x))) rfl (mc_S m g _ x)]; rfl
  · rfl
theorem mI_23 (m : Nat) (g : Mg_t) (h : Hs_t) : fd_I [8] 23 (MH m g h) m = some (g.1 23) := by
  simp only [fd_I, fd_V, MH_0]; rfl
theorem mP_23 (m : Nat) (g : Mg_t) (h : Hs_t) (x : Int32) : pt_Z [8] 23 (MH m g h) m x = if is_Z x then some (MH m (gS g 23 x) h) else none := by
  simp only [pt_Z, pt_V, MH_0]
  split
  · rw [← MH_set m g (gS g 23 x) h 0 (by omega) (ce_O 8 (mo m (gS g 23 x))) rfl (mc_S m g _ x)]; rfl
  · rfl
theorem mI_25 (m : Nat) (g : Mg_t) (h : Hs_t) : fd_I [8] 25 (MH m g h) m = some (g.1 25) := by
  simp only [fd_I, fd_V, MH_0]; rfl
theorem mP_25 (m : Nat) (g : Mg_t) (h : Hs_t) (x : Int32) : pt_V [8] 25 (MH m g h) m (.int x) = some (MH m (gS g 25 x) h) := by
  simp only [pt_V, MH_0]
  rw [← MH_set m g (gS g 25 x) h 0 (by omega) (ce_O 8 (mo m (gS g 25 x))) rfl (mc_S m g _ x)]; rfl
theorem mI_27 (m : Nat) (g : Mg_t) (h : Hs_t) : fd_I [8] 27 (MH m g h) m = some (g.1 27) := by
  simp only [fd_I, fd_V, MH_0]; rfl
theorem mP_27 (m : Nat) (g : Mg_t) (h : Hs_t) (x : Int32) : pt_V [8] 27 (MH m g h) m (.int x) = some (MH m (gS g 27 x) h) := by
  simp only [pt_V, MH_0]
  rw [← MH_set m g (gS g 27 x) h 0 (by omega) (ce_O 8 (mo m (gS g 27 x))) rfl (mc_S m g _ x)]; rfl
theorem mR_1 (m : Nat) (g : Mg_t) (h : Hs_t) : fd_A [8] 1 (MH m g h) m = some (m + 1) := by
  simp only [fd_A, fd_V, MH_0]; rfl
theorem mG_1 (m : Nat) (g : Mg_t) (h : Hs_t) (i : Int32) : ar_I (MH m g h) (m + 1) i = if in_R i 120 then some (g.2 1 i.toNatClampNeg) else none := by
  simp only [ar_I, MH_at m g h 1 (by omega), mc]
theorem mS_1 (m : Nat) (g : Mg_t) (h : Hs_t) (i x : Int32) : as_I (MH m g h) (m + 1) i x = if in_R i 120 then some (MH m (gA g 1 (upd (g.2 1) i.toNatClampNeg x)) h) else none := by
  simp only [as_I, MH_at m g h 1 (by omega), mc]
  split
  · rw [← MH_set m g (gA g 1 (upd (g.2 1) i.toNatClampNeg x)) h 1 (by omega) (ce_I 120 (upd (g.2 1) i.toNatClampNeg x)) rfl (fun i h1 h2 => by match i, h1, h2 with | 0, _, h2 => rfl | 1, _, h2 => exact absurd rfl h2 | 2, _, h2 => rfl | 3, _, h2 => rfl | 4, _, h2 => rfl | 5, _, h2 => rfl | 6, _, h2 => rfl | 7, _, h2 => rfl | 8, _, h2 => rfl | 9, _, h2 => rfl | 10, _, h2 => rfl | 11, _, h2 => rfl | 12, _, h2 => rfl | 13, _, h2 => rfl | 14, _, h2 => rfl | 15, _, h2 => rfl | 16, _, h2 => rfl | 17, _, h2 => rfl | 18, _, h2 => rfl | i + 19, h1, _ => omega)]
  · rfl
theorem mR_2 (m : Nat) (g : Mg_t) (h : Hs_t) : fd_A [8] 2 (MH m g h) m = some (m + 2) := by
  simp only [fd_A, fd_V, MH_0]; rfl
theorem mG_2 (m : Nat) (g : Mg_t) (h : Hs_t) (i : Int32) : ar_Z (MH m g h) (m + 2) i = if in_R i 121 then some (g.2 2 i.toNatClampNeg) else none := by
  simp only [ar_Z, MH_at m g h 2 (by omega), mc]
theorem mS_2 (m : Nat) (g : Mg_t) (h : Hs_t) (i x : Int32) : as_Z (MH m g h) (m + 2) i x = if (in_R i 121 && is_Z x) then some (MH m (gA g 2 (upd (g.2 2) i.toNatClampNeg x)) h) else none := by
  simp only [as_Z, MH_at m g h 2 (by omega), mc]
  split
  · rw [← MH_set m g (gA g 2 (upd (g.2 2) i.toNatClampNeg x)) h 2 (by omega) (ce_Z 121 (upd (g.2 2) i.toNatClampNeg x)) rfl (fun i h1 h2 => by match i, h1, h2 with | 0, _, h2 => rfl | 1, _, h2 => rfl | 2, _, h2 => exact absurd rfl h2 | 3, _, h2 => rfl | 4, _, h2 => rfl | 5, _, h2 => rfl | 6, _, h2 => rfl | 7, _, h2 => rfl | 8, _, h2 => rfl | 9, _, h2 => rfl | 10, _, h2 => rfl | 11, _, h2 => rfl | 12, _, h2 => rfl | 13, _, h2 => rfl | 14, _, h2 => rfl | 15, _, h2 => rfl | 16, _, h2 => rfl | 17, _, h2 => rfl | 18, _, h2 => rfl | i + 19, h1, _ => omega)]
  · rfl
theorem mR_3 (m : Nat) (g : Mg_t) (h : Hs_t) : fd_A [8] 3 (MH m g h) m = some (m + 3) := by
  simp only [fd_A, fd_V, MH_0]; rfl
theorem mG_3 (m : Nat) (g : Mg_t) (h : Hs_t) (i : Int32) : ar_Z (MH m g h) (m + 3) i = if in_R i 121 then some (g.2 3 i.toNatClampNeg) else none := by
  simp only [ar_Z, MH_at m g h 3 (by omega), mc]
theorem mS_3 (m : Nat) (g : Mg_t) (h : Hs_t) (i x : Int32) : as_Z (MH m g h) (m + 3) i x = if (in_R i 121 && is_Z x) then some (MH m (gA g 3 (upd (g.2 3) i.toNatClampNeg x)) h) else none := by
  simp only [as_Z, MH_at m g h 3 (by omega), mc]
  split
  · rw [← MH_set m g (gA g 3 (upd (g.2 3) i.toNatClampNeg x)) h 3 (by omega) (ce_Z 121 (upd (g.2 3) i.toNatClampNeg x)) rfl (fun i h1 h2 => by match i, h1, h2 with | 0, _, h2 => rfl | 1, _, h2 => rfl | 2, _, h2 => rfl | 3, _, h2 => exact absurd rfl h2 | 4, _, h2 => rfl | 5, _, h2 => rfl | 6, _, h2 => rfl | 7, _, h2 => rfl | 8, _, h2 => rfl | 9, _, h2 => rfl | 10, _, h2 => rfl | 11, _, h2 => rfl | 12, _, h2 => rfl | 13, _, h2 => rfl | 14, _, h2 => rfl | 15, _, h2 => rfl | 16, _, h2 => rfl | 17, _, h2 => rfl | 18, _, h2 => rfl | i + 19, h1, _ => omega)]
  · rfl
theorem mR_7 (m : Nat) (g : Mg_t) (h : Hs_t) : fd_A [8] 7 (MH m g h) m = some (m + 4) := by
  simp only [fd_A, fd_V, MH_0]; rfl
theorem mG_7 (m : Nat) (g : Mg_t) (h : Hs_t) (i : Int32) : ar_I (MH m g h) (m + 4) i = if in_R i 5 then some (g.2 7 i.toNatClampNeg) else none := by
  simp only [ar_I, MH_at m g h 4 (by omega), mc]
theorem mS_7 (m : Nat) (g : Mg_t) (h : Hs_t) (i x : Int32) : as_I (MH m g h) (m + 4) i x = if in_R i 5 then some (MH m (gA g 7 (upd (g.2 7) i.toNatClampNeg x)) h) else none := by
  simp only [as_I, MH_at m g h 4 (by omega), mc]
  split
  · rw [← MH_set m g (gA g 7 (upd (g.2 7) i.toNatClampNeg x)) h 4 (by omega) (ce_I 5 (upd (g.2 7) i.toNatClampNeg x)) rfl (fun i h1 h2 => by match i, h1, h2 with | 0, _, h2 => rfl | 1, _, h2 => rfl | 2, _, h2 => rfl | 3, _, h2 => rfl | 4, _, h2 => exact absurd rfl h2 | 5, _, h2 => rfl | 6, _, h2 => rfl | 7, _, h2 => rfl | 8, _, h2 => rfl | 9, _, h2 => rfl | 10, _, h2 => rfl | 11, _, h2 => rfl | 12, _, h2 => rfl | 13, _, h2 => rfl | 14, _, h2 => rfl | 15, _, h2 => rfl | 16, _, h2 => rfl | 17, _, h2 => rfl | 18, _, h2 => rfl | i + 19, h1, _ => omega)]
  · rfl
theorem mR_8 (m : Nat) (g : Mg_t) (h : Hs_t) : fd_A [8] 8 (MH m g h) m = some (m + 5) := by
  simp only [fd_A, fd_V, MH_0]; rfl
theorem mG_8 (m : Nat) (g : Mg_t) (h : Hs_t) (i : Int32) : ar_I (MH m g h) (m + 5) i = if in_R i 5 then some (g.2 8 i.toNatClampNeg) else none := by
  simp only [ar_I, MH_at m g h 5 (by omega), mc]
theorem mS_8 (m : Nat) (g : Mg_t) (h : Hs_t) (i x : Int32) : as_I (MH m g h) (m + 5) i x = if in_R i 5 then some (MH m (gA g 8 (upd (g.2 8) i.toNatClampNeg x)) h) else none := by
  simp only [as_I, MH_at m g h 5 (by omega), mc]
  split
  · rw [← MH_set m g (gA g 8 (upd (g.2 8) i.toNatClampNeg x)) h 5 (by omega) (ce_I 5 (upd (g.2 8) i.toNatClampNeg x)) rfl (fun i h1 h2 => by match i, h1, h2 with | 0, _, h2 => rfl | 1, _, h2 => rfl | 2, _, h2 => rfl | 3, _, h2 => rfl | 4, _, h2 => rfl | 5, _, h2 => exact absurd rfl h2 | 6, _, h2 => rfl | 7, _, h2 => rfl | 8, _, h2 => rfl | 9, _, h2 => rfl | 10, _, h2 => rfl | 11, _, h2 => rfl | 12, _, h2 => rfl | 13, _, h2 => rfl | 14, _, h2 => rfl | 15, _, h2 => rfl | 16, _, h2 => rfl | 17, _, h2 => rfl | 18, _, h2 => rfl | i + 19, h1, _ => omega)]
  · rfl
theorem mR_9 (m : Nat) (g : Mg_t) (h : Hs_t) : fd_A [8] 9 (MH m g h) m = some (m + 6) := by
  simp only [fd_A, fd_V, MH_0]; rfl
theorem mG_9 (m : Nat) (g : Mg_t) (h : Hs_t) (i : Int32) : ar_I (MH m g h) (m + 6) i = if in_R i 5 then some (g.2 9 i.toNatClampNeg) else none := by
  simp only [ar_I, MH_at m g h 6 (by omega), mc]
theorem mS_9 (m : Nat) (g : Mg_t) (h : Hs_t) (i x : Int32) : as_I (MH m g h) (m + 6) i x = if in_R i 5 then some (MH m (gA g 9 (upd (g.2 9) i.toNatClampNeg x)) h) else none := by
  simp only [as_I, MH_at m g h 6 (by omega), mc]
  split
  · rw [← MH_set m g (gA g 9 (upd (g.2 9) i.toNatClampNeg x)) h 6 (by omega) (ce_I 5 (upd (g.2 9) i.toNatClampNeg x)) rfl (fun i h1 h2 => by match i, h1, h2 with | 0, _, h2 => rfl | 1, _, h2 => rfl | 2, _, h2 => rfl | 3, _, h2 => rfl | 4, _, h2 => rfl | 5, _, h2 => rfl | 6, _, h2 => exact absurd rfl h2 | 7, _, h2 => rfl | 8, _, h2 => rfl | 9, _, h2 => rfl | 10, _, h2 => rfl | 11, _, h2 => rfl | 12, _, h2 => rfl | 13, _, h2 => rfl | 14, _, h2 => rfl | 15, _, h2 => rfl | 16, _, h2 => rfl | 17, _, h2 => rfl | 18, _, h2 => rfl | i + 19, h1, _ => omega)]
  · rfl
theorem mR_10 (m : Nat) (g : Mg_t) (h : Hs_t) : fd_A [8] 10 (MH m g h) m = some (m + 7) := by
  simp only [fd_A, fd_V, MH_0]; rfl
theorem mG_10 (m : Nat) (g : Mg_t) (h : Hs_t) (i : Int32) : ar_I (MH m g h) (m + 7) i = if in_R i 5 then some (g.2 10 i.toNatClampNeg) else none := by
  simp only [ar_I, MH_at m g h 7 (by omega), mc]
theorem mS_10 (m : Nat) (g : Mg_t) (h : Hs_t) (i x : Int32) : as_I (MH m g h) (m + 7) i x = if in_R i 5 then some (MH m (gA g 10 (upd (g.2 10) i.toNatClampNeg x)) h) else none := by
  simp only [as_I, MH_at m g h 7 (by omega), mc]
  split
  · rw [← MH_set m g (gA g 10 (upd (g.2 10) i.toNatClampNeg x)) h 7 (by omega) (ce_I 5 (upd (g.2 10) i.toNatClampNeg x)) rfl (fun i h1 h2 => by match i, h1, h2 with | 0, _, h2 => rfl | 1, _, h2 => rfl | 2, _, h2 => rfl | 3, _, h2 => rfl | 4, _, h2 => rfl | 5, _, h2 => rfl | 6, _, h2 => rfl | 7, _, h2 => exact absurd rfl h2 | 8, _, h2 => rfl | 9, _, h2 => rfl | 10, _, h2 => rfl | 11, _, h2 => rfl | 12, _, h2 => rfl | 13, _, h2 => rfl | 14, _, h2 => rfl | 15, _, h2 => rfl | 16, _, h2 => rfl | 17, _, h2 => rfl | 18, _, h2 => rfl | i + 19, h1, _ => omega)]
  · rfl
theorem mR_11 (m : Nat) (g : Mg_t) (h : Hs_t) : fd_A [8] 11 (MH m g h) m = some (m + 8) := by
  simp only [fd_A, fd_V, MH_0]; rfl
theorem mG_11 (m : Nat) (g : Mg_t) (h : Hs_t) (i : Int32) : ar_Z (MH m g h) (m + 8) i = if in_R i 5 then some (g.2 11 i.toNatClampNeg) else none := by
  simp only [ar_Z, MH_at m g h 8 (by omega), mc]
theorem mS_11 (m : Nat) (g : Mg_t) (h : Hs_t) (i x : Int32) : as_Z (MH m g h) (m + 8) i x = if (in_R i 5 && is_Z x) then some (MH m (gA g 11 (upd (g.2 11) i.toNatClampNeg x)) h) else none := by
  simp only [as_Z, MH_at m g h 8 (by omega), mc]
  split
  · rw [← MH_set m g (gA g 11 (upd (g.2 11) i.toNatClampNeg x)) h 8 (by omega) (ce_Z 5 (upd (g.2 11) i.toNatClampNeg x)) rfl (fun i h1 h2 => by match i, h1, h2 with | 0, _, h2 => rfl | 1, _, h2 => rfl | 2, _, h2 => rfl | 3, _, h2 => rfl | 4, _, h2 => rfl | 5, _, h2 => rfl | 6, _, h2 => rfl | 7, _, h2 => rfl | 8, _, h2 => exact absurd rfl h2 | 9, _, h2 => rfl | 10, _, h2 => rfl | 11, _, h2 => rfl | 12, _, h2 => rfl | 13, _, h2 => rfl | 14, _, h2 => rfl | 15, _, h2 => rfl | 16, _, h2 => rfl | 17, _, h2 => rfl | 18, _, h2 => rfl | i + 19, h1, _ => omega)]
  · rfl
theorem mR_12 (m : Nat) (g : Mg_t) (h : Hs_t) : fd_A [8] 12 (MH m g h) m = some (m + 9) := by
  simp only [fd_A, fd_V, MH_0]; rfl
theorem mG_12 (m : Nat) (g : Mg_t) (h : Hs_t) (i : Int32) : ar_Z (MH m g h) (m + 9) i = if in_R i 5 then some (g.2 12 i.toNatClampNeg) else none := by
  simp only [ar_Z, MH_at m g h 9 (by omega), mc]
theorem mS_12 (m : Nat) (g : Mg_t) (h : Hs_t) (i x : Int32) : as_Z (MH m g h) (m + 9) i x = if (in_R i 5 && is_Z x) then some (MH m (gA g 12 (upd (g.2 12) i.toNatClampNeg x)) h) else none := by
  simp only [as_Z, MH_at m g h 9 (by omega), mc]
  split
  · rw [← MH_set m g (gA g 12 (upd (g.2 12) i.toNatClampNeg x)) h 9 (by omega) (ce_Z 5 (upd (g.2 12) i.toNatClampNeg x)) rfl (fun i h1 h2 => by match i, h1, h2 with | 0, _, h2 => rfl | 1, _, h2 => rfl | 2, _, h2 => rfl | 3, _, h2 => rfl | 4, _, h2 => rfl | 5, _, h2 => rfl | 6, _, h2 => rfl | 7, _, h2 => rfl | 8, _, h2 => rfl | 9, _, h2 => exact absurd rfl h2 | 10, _, h2 => rfl | 11, _, h2 => rfl | 12, _, h2 => rfl | 13, _, h2 => rfl | 14, _, h2 => rfl | 15, _, h2 => rfl | 16, _, h2 => rfl | 17, _, h2 => rfl | 18, _, h2 => rfl | i + 19, h1, _ => omega)]
  · rfl
theorem mR_13 (m : Nat) (g : Mg_t) (h : Hs_t) : fd_A [8] 13 (MH m g h) m = some (m + 10) := by
  simp only [fd_A, fd_V, MH_0]; rfl
theorem mG_13 (m : Nat) (g : Mg_t) (h : Hs_t) (i : Int32) : ar_I (MH m g h) (m + 10) i = if in_R i 320 then some (g.2 13 i.toNatClampNeg) else none := by
  simp only [ar_I, MH_at m g h 10 (by omega), mc]
theorem mS_13 (m : Nat) (g : Mg_t) (h : Hs_t) (i x : Int32) : as_I (MH m g h) (m + 10) i x = if in_R i 320 then some (MH m (gA g 13 (upd (g.2 13) i.toNatClampNeg x)) h) else none := by
  simp only [as_I, MH_at m g h 10 (by omega), mc]
  split
  · rw [← MH_set m g (gA g 13 (upd (g.2 13) i.toNatClampNeg x)) h 10 (by omega) (ce_I 320 (upd (g.2 13) i.toNatClampNeg x)) rfl (fun i h1 h2 => by match i, h1, h2 with | 0, _, h2 => rfl | 1, _, h2 => rfl | 2, _, h2 => rfl | 3, _, h2 => rfl | 4, _, h2 => rfl | 5, _, h2 => rfl | 6, _, h2 => rfl | 7, _, h2 => rfl | 8, _, h2 => rfl | 9, _, h2 => rfl | 10, _, h2 => exact absurd rfl h2 | 11, _, h2 => rfl | 12, _, h2 => rfl | 13, _, h2 => rfl | 14, _, h2 => rfl | 15, _, h2 => rfl | 16, _, h2 => rfl | 17, _, h2 => rfl | 18, _, h2 => rfl | i + 19, h1, _ => omega)]
  · rfl
theorem mR_14 (m : Nat) (g : Mg_t) (h : Hs_t) : fd_A [8] 14 (MH m g h) m = some (m + 11) := by
  simp only [fd_A, fd_V, MH_0]; rfl
theorem mG_14 (m : Nat) (g : Mg_t) (h : Hs_t) (i : Int32) : ar_I (MH m g h) (m + 11) i = if in_R i 5 then some (g.2 14 i.toNatClampNeg) else none := by
  simp only [ar_I, MH_at m g h 11 (by omega), mc]
theorem mS_14 (m : Nat) (g : Mg_t) (h : Hs_t) (i x : Int32) : as_I (MH m g h) (m + 11) i x = if in_R i 5 then some (MH m (gA g 14 (upd (g.2 14) i.toNatClampNeg x)) h) else none := by
  simp only [as_I, MH_at m g h 11 (by omega), mc]
  split
  · rw [← MH_set m g (gA g 14 (upd (g.2 14) i.toNatClampNeg x)) h 11 (by omega) (ce_I 5 (upd (g.2 14) i.toNatClampNeg x)) rfl (fun i h1 h2 => by match i, h1, h2 with | 0, _, h2 => rfl | 1, _, h2 => rfl | 2, _, h2 => rfl | 3, _, h2 => rfl | 4, _, h2 => rfl | 5, _, h2 => rfl | 6, _, h2 => rfl | 7, _, h2 => rfl | 8, _, h2 => rfl | 9, _, h2 => rfl | 10, _, h2 => rfl | 11, _, h2 => exact absurd rfl h2 | 12, _, h2 => rfl | 13, _, h2 => rfl | 14, _, h2 => rfl | 15, _, h2 => rfl | 16, _, h2 => rfl | 17, _, h2 => rfl | 18, _, h2 => rfl | i + 19, h1, _ => omega)]
  · rfl
theorem mR_15 (m : Nat) (g : Mg_t) (h : Hs_t) : fd_A [8] 15 (MH m g h) m = some (m + 12) := by
  simp only [fd_A, fd_V, MH_0]; rfl
theorem mG_15 (m : Nat) (g : Mg_t) (h : Hs_t) (i : Int32) : ar_I (MH m g h) (m + 12) i = if in_R i 5 then some (g.2 15 i.toNatClampNeg) else none := by
  simp only [ar_I, MH_at m g h 12 (by omega), mc]
theorem mS_15 (m : Nat) (g : Mg_t) (h : Hs_t) (i x : Int32) : as_I (MH m g h) (m + 12) i x = if in_R i 5 then some (MH m (gA g 15 (upd (g.2 15) i.toNatClampNeg x)) h) else none := by
  simp only [as_I, MH_at m g h 12 (by omega), mc]
  split
  · rw [← MH_set m g (gA g 15 (upd (g.2 15) i.toNatClampNeg x)) h 12 (by omega) (ce_I 5 (upd (g.2 15) i.toNatClampNeg x)) rfl (fun i h1 h2 => by match i, h1, h2 with | 0, _, h2 => rfl | 1, _, h2 => rfl | 2, _, h2 => rfl | 3, _, h2 => rfl | 4, _, h2 => rfl | 5, _, h2 => rfl | 6, _, h2 => rfl | 7, _, h2 => rfl | 8, _, h2 => rfl | 9, _, h2 => rfl | 10, _, h2 => rfl | 11, _, h2 => rfl | 12, _, h2 => exact absurd rfl h2 | 13, _, h2 => rfl | 14, _, h2 => rfl | 15, _, h2 => rfl | 16, _, h2 => rfl | 17, _, h2 => rfl | 18, _, h2 => rfl | i + 19, h1, _ => omega)]
  · rfl
theorem mR_16 (m : Nat) (g : Mg_t) (h : Hs_t) : fd_A [8] 16 (MH m g h) m = some (m + 13) := by
  simp only [fd_A, fd_V, MH_0]; rfl
theorem mG_16 (m : Nat) (g : Mg_t) (h : Hs_t) (i : Int32) : ar_Z (MH m g h) (m + 13) i = if in_R i 5 then some (g.2 16 i.toNatClampNeg) else none := by
  simp only [ar_Z, MH_at m g h 13 (by omega), mc]
theorem mS_16 (m : Nat) (g : Mg_t) (h : Hs_t) (i x : Int32) : as_Z (MH m g h) (m + 13) i x = if (in_R i 5 && is_Z x) then some (MH m (gA g 16 (upd (g.2 16) i.toNatClampNeg x)) h) else none := by
  simp only [as_Z, MH_at m g h 13 (by omega), mc]
  split
  · rw [← MH_set m g (gA g 16 (upd (g.2 16) i.toNatClampNeg x)) h 13 (by omega) (ce_Z 5 (upd (g.2 16) i.toNatClampNeg x)) rfl (fun i h1 h2 => by match i, h1, h2 with | 0, _, h2 => rfl | 1, _, h2 => rfl | 2, _, h2 => rfl | 3, _, h2 => rfl | 4, _, h2 => rfl | 5, _, h2 => rfl | 6, _, h2 => rfl | 7, _, h2 => rfl | 8, _, h2 => rfl | 9, _, h2 => rfl | 10, _, h2 => rfl | 11, _, h2 => rfl | 12, _, h2 => rfl | 13, _, h2 => exact absurd rfl h2 | 14, _, h2 => rfl | 15, _, h2 => rfl | 16, _, h2 => rfl | 17, _, h2 => rfl | 18, _, h2 => rfl | i + 19, h1, _ => omega)]
  · rfl
theorem mR_17 (m : Nat) (g : Mg_t) (h : Hs_t) : fd_A [8] 17 (MH m g h) m = some (m + 14) := by
  simp only [fd_A, fd_V, MH_0]; rfl
theorem mG_17 (m : Nat) (g : Mg_t) (h : Hs_t) (i : Int32) : ar_I (MH m g h) (m + 14) i = if in_R i 5 then some (g.2 17 i.toNatClampNeg) else none := by
  simp only [ar_I, MH_at m g h 14 (by omega), mc]
theorem mS_17 (m : Nat) (g : Mg_t) (h : Hs_t) (i x : Int32) : as_I (MH m g h) (m + 14) i x = if in_R i 5 then some (MH m (gA g 17 (upd (g.2 17) i.toNatClampNeg x)) h) else none := by
  simp only [as_I, MH_at m g h 14 (by omega), mc]
  split
  · rw [← MH_set m g (gA g 17 (upd (g.2 17) i.toNatClampNeg x)) h 14 (by omega) (ce_I 5 (upd (g.2 17) i.toNatClampNeg x)) rfl (fun i h1 h2 => by match i, h1, h2 with | 0, _, h2 => rfl | 1, _, h2 => rfl | 2, _, h2 => rfl | 3, _, h2 => rfl | 4, _, h2 => rfl | 5, _, h2 => rfl | 6, _, h2 => rfl | 7, _, h2 => rfl | 8, _, h2 => rfl | 9, _, h2 => rfl | 10, _, h2 => rfl | 11, _, h2 => rfl | 12, _, h2 => rfl | 13, _, h2 => rfl | 14, _, h2 => exact absurd rfl h2 | 15, _, h2 => rfl | 16, _, h2 => rfl | 17, _, h2 => rfl | 18, _, h2 => rfl | i + 19, h1, _ => omega)]
  · rfl
theorem mR_18 (m : Nat) (g : Mg_t) (h : Hs_t) : fd_A [8] 18 (MH m g h) m = some (m + 15) := by
  simp only [fd_A, fd_V, MH_0]; rfl
theorem mG_18 (m : Nat) (g : Mg_t) (h : Hs_t) (i : Int32) : ar_I (MH m g h) (m + 15) i = if in_R i 5 then some (g.2 18 i.toNatClampNeg) else none := by
  simp only [ar_I, MH_at m g h 15 (by omega), mc]
theorem mS_18 (m : Nat) (g : Mg_t) (h : Hs_t) (i x : Int32) : as_I (MH m g h) (m + 15) i x = if in_R i 5 then some (MH m (gA g 18 (upd (g.2 18) i.toNatClampNeg x)) h) else none := by
  simp only [as_I, MH_at m g h 15 (by omega), mc]
  split
  · rw [← MH_set m g (gA g 18 (upd (g.2 18) i.toNatClampNeg x)) h 15 (by omega) (ce_I 5 (upd (g.2 18) i.toNatClampNeg x)) rfl (fun i h1 h2 => by match i, h1, h2 with | 0, _, h2 => rfl | 1, _, h2 => rfl | 2, _, h2 => rfl | 3, _, h2 => rfl | 4, _, h2 => rfl | 5, _, h2 => rfl | 6, _, h2 => rfl | 7, _, h2 => rfl | 8, _, h2 => rfl | 9, _, h2 => rfl | 10, _, h2 => rfl | 11, _, h2 => rfl | 12, _, h2 => rfl | 13, _, h2 => rfl | 14, _, h2 => rfl | 15, _, h2 => exact absurd rfl h2 | 16, _, h2 => rfl | 17, _, h2 => rfl | 18, _, h2 => rfl | i + 19, h1, _ => omega)]
  · rfl
theorem mR_19 (m : Nat) (g : Mg_t) (h : Hs_t) : fd_A [8] 19 (MH m g h) m = some (m + 16) := by
  simp only [fd_A, fd_V, MH_0]; rfl
theorem mG_19 (m : Nat) (g : Mg_t) (h : Hs_t) (i : Int32) : ar_I (MH m g h) (m + 16) i = if in_R i 120 then some (g.2 19 i.toNatClampNeg) else none := by
  simp only [ar_I, MH_at m g h 16 (by omega), mc]
theorem mS_19 (m : Nat) (g : Mg_t) (h : Hs_t) (i x : Int32) : as_I (MH m g h) (m + 16) i x = if in_R i 120 then some (MH m (gA g 19 (upd (g.2 19) i.toNatClampNeg x)) h) else none := by
  simp only [as_I, MH_at m g h 16 (by omega), mc]
  split
  · rw [← MH_set m g (gA g 19 (upd (g.2 19) i.toNatClampNeg x)) h 16 (by omega) (ce_I 120 (upd (g.2 19) i.toNatClampNeg x)) rfl (fun i h1 h2 => by match i, h1, h2 with | 0, _, h2 => rfl | 1, _, h2 => rfl | 2, _, h2 => rfl | 3, _, h2 => rfl | 4, _, h2 => rfl | 5, _, h2 => rfl | 6, _, h2 => rfl | 7, _, h2 => rfl | 8, _, h2 => rfl | 9, _, h2 => rfl | 10, _, h2 => rfl | 11, _, h2 => rfl | 12, _, h2 => rfl | 13, _, h2 => rfl | 14, _, h2 => rfl | 15, _, h2 => rfl | 16, _, h2 => exact absurd rfl h2 | 17, _, h2 => rfl | 18, _, h2 => rfl | i + 19, h1, _ => omega)]
  · rfl
theorem mR_24 (m : Nat) (g : Mg_t) (h : Hs_t) : fd_A [8] 24 (MH m g h) m = some (m + 17) := by
  simp only [fd_A, fd_V, MH_0]; rfl
theorem mG_24 (m : Nat) (g : Mg_t) (h : Hs_t) (i : Int32) : ar_I (MH m g h) (m + 17) i = if in_R i 600 then some (g.2 24 i.toNatClampNeg) else none := by
  simp only [ar_I, MH_at m g h 17 (by omega), mc]
theorem mS_24 (m : Nat) (g : Mg_t) (h : Hs_t) (i x : Int32) : as_I (MH m g h) (m + 17) i x = if in_R i 600 then some (MH m (gA g 24 (upd (g.2 24) i.toNatClampNeg x)) h) else none := by
  simp only [as_I, MH_at m g h 17 (by omega), mc]
  split
  · rw [← MH_set m g (gA g 24 (upd (g.2 24) i.toNatClampNeg x)) h 17 (by omega) (ce_I 600 (upd (g.2 24) i.toNatClampNeg x)) rfl (fun i h1 h2 => by match i, h1, h2 with | 0, _, h2 => rfl | 1, _, h2 => rfl | 2, _, h2 => rfl | 3, _, h2 => rfl | 4, _, h2 => rfl | 5, _, h2 => rfl | 6, _, h2 => rfl | 7, _, h2 => rfl | 8, _, h2 => rfl | 9, _, h2 => rfl | 10, _, h2 => rfl | 11, _, h2 => rfl | 12, _, h2 => rfl | 13, _, h2 => rfl | 14, _, h2 => rfl | 15, _, h2 => rfl | 16, _, h2 => rfl | 17, _, h2 => exact absurd rfl h2 | 18, _, h2 => rfl | i + 19, h1, _ => omega)]
  · rfl
theorem mR_26 (m : Nat) (g : Mg_t) (h : Hs_t) : fd_A [8] 26 (MH m g h) m = some (m + 18) := by
  simp only [fd_A, fd_V, MH_0]; rfl
theorem mG_26 (m : Nat) (g : Mg_t) (h : Hs_t) (i : Int32) : ar_I (MH m g h) (m + 18) i = if in_R i 120 then some (g.2 26 i.toNatClampNeg) else none := by
  simp only [ar_I, MH_at m g h 18 (by omega), mc]
theorem mS_26 (m : Nat) (g : Mg_t) (h : Hs_t) (i x : Int32) : as_I (MH m g h) (m + 18) i x = if in_R i 120 then some (MH m (gA g 26 (upd (g.2 26) i.toNatClampNeg x)) h) else none := by
  simp only [as_I, MH_at m g h 18 (by omega), mc]
  split
  · rw [← MH_set m g (gA g 26 (upd (g.2 26) i.toNatClampNeg x)) h 18 (by omega) (ce_I 120 (upd (g.2 26) i.toNatClampNeg x)) rfl (fun i h1 h2 => by match i, h1, h2 with | 0, _, h2 => rfl | 1, _, h2 => rfl | 2, _, h2 => rfl | 3, _, h2 => rfl | 4, _, h2 => rfl | 5, _, h2 => rfl | 6, _, h2 => rfl | 7, _, h2 => rfl | 8, _, h2 => rfl | 9, _, h2 => rfl | 10, _, h2 => rfl | 11, _, h2 => rfl | 12, _, h2 => rfl | 13, _, h2 => rfl | 14, _, h2 => rfl | 15, _, h2 => rfl | 16, _, h2 => rfl | 17, _, h2 => rfl | 18, _, h2 => exact absurd rfl h2 | i + 19, h1, _ => omega)]
  · rfl
theorem mK_8 (m : Nat) (g : Mg_t) (h : Hs_t) : ck_T [8] (MH m g h) m = some 8 := by
  simp only [ck_T, tg_O, MH_0]; rfl
theorem gS_1 (g : Mg_t) (k : Nat) (x : Int32) (j : Nat) : (gS g k x).1 j = if j = k then x else g.1 j := rfl
theorem gS_2 (g : Mg_t) (k : Nat) (x : Int32) : (gS g k x).2 = g.2 := rfl
theorem gA_1 (g : Mg_t) (k : Nat) (f : Nat → Int32) : (gA g k f).1 = g.1 := rfl
theorem gA_2 (g : Mg_t) (k : Nat) (f : Nat → Int32) (j : Nat) : (gA g k f).2 j = if j = k then f else g.2 j := rfl
