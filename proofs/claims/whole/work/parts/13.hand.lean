/-! Calls where what is thrown is caught; calls of the law. -/
def bh_I (F : Rs_t) (k : Int32 → Hs_t → Rs_t) (kx : Nat → Nat → Hs_t → Rs_t) : Rs_t := match F with
  | some (.returned (some (.int v)), h) => k v h
  | some (.threw x, h) => (tg_O h x).bind fun t => kx t x h
  | _ => none
def bh_L (F : Rs_t) (k : Int64 → Hs_t → Rs_t) (kx : Nat → Nat → Hs_t → Rs_t) : Rs_t := match F with
  | some (.returned (some (.long v)), h) => k v h
  | some (.threw x, h) => (tg_O h x).bind fun t => kx t x h
  | _ => none
def bh_V (F : Rs_t) (k : Hs_t → Rs_t) (kx : Nat → Nat → Hs_t → Rs_t) : Rs_t := match F with
  | some (.returned none, h) => k h
  | some (.threw x, h) => (tg_O h x).bind fun t => kx t x h
  | _ => none
def bn_I (F : Rs_t) (k : Int32 → Hs_t → Rs_t) : Rs_t := match F with
  | some (.returned (some (.int v)), h) => k v h
  | _ => none
def bn_L (F : Rs_t) (k : Int64 → Hs_t → Rs_t) : Rs_t := match F with
  | some (.returned (some (.long v)), h) => k v h
  | _ => none
def bn_V (F : Rs_t) (k : Hs_t → Rs_t) : Rs_t := match F with
  | some (.returned none, h) => k h
  | _ => none
section HD
variable {p : Program} {l : Launch} {e : Env} {R : Room} {s : State} {m : MethodId} {args : Array Value} {below : List Frame} {meth : Method} {c : Code} {H : Heap} {locs : List Loc} {cells slots : Nat} {Q : State → Prop}
variable {s0 : State} {A0 : Array Value} {G : Gx_t} {y : MethodName} {cc : ByteArray} {nL : Nat} {ret : Option FieldType} {hh : List (Nat × Nat × Nat × Nat)} {pc : Nat} {ls : Array Slot} {st : List Value} {h : Hs_t} {r : Outcome × Hs_t} {a : Nat}
/-- the frame g, with the object x thrown over it -/
def x_TW (p : Program) (l : Launch) (e : Env) (R : Room) (s : State) (m : MethodId) (args : Array Value) (below : List Frame) (meth : Method) (c : Code) (H : Heap) (locs : List Loc) (cells slots : Nat) (Q : State → Prop) (g : JFrame) (x : Nat) : Prop :=
  ∀ T : State, T.heap = H → Stand p l e R s m args below meth c T locs cells slots → ∃ t, Steps p.tables e below ((T.setTop g).pushFrame (.throwing x)) t ∧ Q t
theorem x_hI {mc ms : Nat} {st0 : List Value} {F : Rs_t} {rest : Int32 → Hs_t → Rs_t} {rx : Nat → Nat → Hs_t → Rs_t} (hL : Lo_k s0 locs) (heq : bh_I F rest rx = some r) (hr : ∀ r0, F = some r0 → x_Run G s0 p l e R s m args below meth c H locs cells slots mc ms (F0 m pc ls st0) st r0)
    (kk : ∀ (v : Int32) (h1 : Hs_t) (H1 : Heap) (locs1 : List Loc), Rp_h G s0.heap h1 H1 → Lo_k s0 locs1 → rest v h1 = some r → W p l e R s m args below meth c H1 locs1 (cells + mc) (slots + ms) Q (F0 m (pc + 3) ls (.int v :: st)))
    (kx : ∀ (t x : Nat) (fs : List Value) (h1 : Hs_t) (H1 : Heap) (locs1 : List Loc), h1.2 x = some (.inl (t, fs)) → Rp_h G s0.heap h1 H1 → Lo_k s0 locs1 → rx t x h1 = some r → x_TW p l e R s m args below meth c H1 locs1 (cells + mc) (slots + ms) Q (F0 m pc ls st) x) : W p l e R s m args below meth c H locs cells slots Q (F0 m pc ls st0) := by
  intro T hT X
  unfold bh_I at heq
  split at heq
  · rename_i _ v h1
    obtain ⟨T', L, X', hLb, hRep, hrt, -⟩ := hr _ rfl T hT X
    obtain ⟨t, a1, b1⟩ := kk v h1 T'.heap _ hRep (lo_app hL hLb) heq T' rfl X'
    exact ⟨t, hrt _ rfl t a1, b1⟩
  · rename_i _ x h1
    obtain ⟨T', L, X', hLb, hRep, -, hth⟩ := hr _ rfl T hT X
    cases ht : tg_O h1 x with
    | none => simp [ht] at heq
    | some t =>
      simp only [ht, Option.bind_some] at heq
      obtain ⟨fs, hx⟩ := tg_O_spec ht
      obtain ⟨t2, a1, b1⟩ := kx t x fs h1 T'.heap _ hx hRep (lo_app hL hLb) heq T' rfl X'
      exact ⟨t2, hth x rfl t2 a1, b1⟩
  · cases heq
theorem x_hL {mc ms : Nat} {st0 : List Value} {F : Rs_t} {rest : Int64 → Hs_t → Rs_t} {rx : Nat → Nat → Hs_t → Rs_t} (hL : Lo_k s0 locs) (heq : bh_L F rest rx = some r) (hr : ∀ r0, F = some r0 → x_Run G s0 p l e R s m args below meth c H locs cells slots mc ms (F0 m pc ls st0) st r0)
    (kk : ∀ (v : Int64) (h1 : Hs_t) (H1 : Heap) (locs1 : List Loc), Rp_h G s0.heap h1 H1 → Lo_k s0 locs1 → rest v h1 = some r → W p l e R s m args below meth c H1 locs1 (cells + mc) (slots + ms) Q (F0 m (pc + 3) ls (.long v :: st)))
    (kx : ∀ (t x : Nat) (fs : List Value) (h1 : Hs_t) (H1 : Heap) (locs1 : List Loc), h1.2 x = some (.inl (t, fs)) → Rp_h G s0.heap h1 H1 → Lo_k s0 locs1 → rx t x h1 = some r → x_TW p l e R s m args below meth c H1 locs1 (cells + mc) (slots + ms) Q (F0 m pc ls st) x) : W p l e R s m args below meth c H locs cells slots Q (F0 m pc ls st0) := by
  intro T hT X
  unfold bh_L at heq
  split at heq
  · rename_i _ v h1
    obtain ⟨T', L, X', hLb, hRep, hrt, -⟩ := hr _ rfl T hT X
    obtain ⟨t, a1, b1⟩ := kk v h1 T'.heap _ hRep (lo_app hL hLb) heq T' rfl X'
    exact ⟨t, hrt _ rfl t a1, b1⟩
  · rename_i _ x h1
    obtain ⟨T', L, X', hLb, hRep, -, hth⟩ := hr _ rfl T hT X
    cases ht : tg_O h1 x with
    | none => simp [ht] at heq
    | some t =>
      simp only [ht, Option.bind_some] at heq
      obtain ⟨fs, hx⟩ := tg_O_spec ht
      obtain ⟨t2, a1, b1⟩ := kx t x fs h1 T'.heap _ hx hRep (lo_app hL hLb) heq T' rfl X'
      exact ⟨t2, hth x rfl t2 a1, b1⟩
  · cases heq
theorem x_hV {mc ms : Nat} {st0 : List Value} {F : Rs_t} {rest : Hs_t → Rs_t} {rx : Nat → Nat → Hs_t → Rs_t} (hL : Lo_k s0 locs) (heq : bh_V F rest rx = some r) (hr : ∀ r0, F = some r0 → x_Run G s0 p l e R s m args below meth c H locs cells slots mc ms (F0 m pc ls st0) st r0)
    (kk : ∀ (h1 : Hs_t) (H1 : Heap) (locs1 : List Loc), Rp_h G s0.heap h1 H1 → Lo_k s0 locs1 → rest h1 = some r → W p l e R s m args below meth c H1 locs1 (cells + mc) (slots + ms) Q (F0 m (pc + 3) ls st))
    (kx : ∀ (t x : Nat) (fs : List Value) (h1 : Hs_t) (H1 : Heap) (locs1 : List Loc), h1.2 x = some (.inl (t, fs)) → Rp_h G s0.heap h1 H1 → Lo_k s0 locs1 → rx t x h1 = some r → x_TW p l e R s m args below meth c H1 locs1 (cells + mc) (slots + ms) Q (F0 m pc ls st) x) : W p l e R s m args below meth c H locs cells slots Q (F0 m pc ls st0) := by
  intro T hT X
  unfold bh_V at heq
  split at heq
  · rename_i _ h1
    obtain ⟨T', L, X', hLb, hRep, hrt, -⟩ := hr _ rfl T hT X
    obtain ⟨t, a1, b1⟩ := kk h1 T'.heap _ hRep (lo_app hL hLb) heq T' rfl X'
    exact ⟨t, hrt _ rfl t a1, b1⟩
  · rename_i _ x h1
    obtain ⟨T', L, X', hLb, hRep, -, hth⟩ := hr _ rfl T hT X
    cases ht : tg_O h1 x with
    | none => simp [ht] at heq
    | some t =>
      simp only [ht, Option.bind_some] at heq
      obtain ⟨fs, hx⟩ := tg_O_spec ht
      obtain ⟨t2, a1, b1⟩ := kx t x fs h1 T'.heap _ hx hRep (lo_app hL hLb) heq T' rfl X'
      exact ⟨t2, hth x rfl t2 a1, b1⟩
  · cases heq
/-- a row of a table in numbers: it covers pc, and its class is linked, and takes the class E or not -/
def hd_N (own : String) (pc : Nat) (E : String) (z : Nat × Nat × Nat × Nat) : Prop := z.1 ≤ pc ∧ pc < z.2.1 ∧ z.2.2.2 ≠ 0 ∧ ∃ nm, ex_W (.classLink own z.2.2.2 nm) ∧ (E, nm) ∈ nc_L
def hd_Y (own : String) (pc : Nat) (E : String) (z : Nat × Nat × Nat × Nat) : Prop := z.1 ≤ pc ∧ pc < z.2.1 ∧ z.2.2.2 ≠ 0 ∧ ∃ nm, ex_W (.classLink own z.2.2.2 nm) ∧ ex_W (.castable E nm)
theorem hd_N.lk {X0 : Platform} {E : String} {th : ClassId} {z : ExceptionTableEntry} (hpl : X0.magicAccessors = ({} : Platform).magicAccessors) (hc : Cx_t p s m meth c s0 A0 l G y cc nL ret hh) (hE : s.vm.findClass E = some th) (h : hd_N y.cls pc E (z.startPc, z.endPc, z.handlerPc, z.catchType)) : x_Lk X0 s m.cls pc th z false := by
  obtain ⟨h1, h2, h3, nm, h4, h5⟩ := h
  obtain ⟨k0, hk0, hcl⟩ := Cond.classLink_spec hc.o (hc.w (args := #[]) h4) X0 hpl
  obtain ⟨c1, c2, q1, q2, q3⟩ := hc.nc h5
  cases Option.some.inj (q1.symm.trans hE)
  cases Option.some.inj (q2.symm.trans hk0)
  exact ⟨by simp only [covers, Bool.and_eq_true, decide_eq_true_eq]; exact ⟨h1, h2⟩, h3, _, hcl, q3⟩
theorem hd_Y.lk {X0 : Platform} {E : String} {th : ClassId} {z : ExceptionTableEntry} (hpl : X0.magicAccessors = ({} : Platform).magicAccessors) (hc : Cx_t p s m meth c s0 A0 l G y cc nL ret hh) (hE : s.vm.findClass E = some th) (h : hd_Y y.cls pc E (z.startPc, z.endPc, z.handlerPc, z.catchType)) : x_Lk X0 s m.cls pc th z true := by
  obtain ⟨h1, h2, h3, nm, h4, h5⟩ := h
  obtain ⟨k0, hk0, hcl⟩ := Cond.classLink_spec hc.o (hc.w (args := #[]) h4) X0 hpl
  obtain ⟨c1, c2, q1, q2, q3⟩ := Cond.castable_spec (hc.w (args := #[]) h5)
  cases Option.some.inj (q1.symm.trans hE)
  cases Option.some.inj (q2.symm.trans hk0)
  exact ⟨by simp only [covers, Bool.and_eq_true, decide_eq_true_eq]; exact ⟨h1, h2⟩, h3, _, hcl, q3⟩
theorem x_hnd {x t N hp st9 en9 ct9 : Nat} {fs : List Value} {E : String} {TT : u_T} {pre suf : List (Nat × Nat × Nat × Nat)} (hc : Cx_t p s m meth c s0 A0 l G y cc nL ret (pre ++ (st9, en9, hp, ct9) :: suf)) (hR : Rp_h G s0.heap h H) (ha : h.2 x = some (.inl (t, fs))) (e1 : cl_L[t]? = some (E, TT, N))
    (hp1 : ∀ z ∈ pre, hd_N y.cls pc E z) (hp2 : hd_Y y.cls pc E (st9, en9, hp, ct9)) (kk : W p l e R s m args below meth c H locs cells slots Q (F0 m hp ls [.ref x])) : x_TW p l e R s m args below meth c H locs cells slots Q (F0 m pc ls st) x := by
  intro T hT X
  have hpl : e.platform.magicAccessors = ({} : Platform).magicAccessors := by rw [X.admits.platform]
  obtain ⟨cell, g1, g2, g3⟩ := hR.recv hc ha e1
  obtain ⟨kV, hkV, -⟩ := Vm.findClass_spec g3
  obtain ⟨L1, L2, hL, hm1, hm2⟩ := List.map_eq_append_iff.mp hc.t
  obtain ⟨z, L3, rfl, hz, hm3⟩ := List.map_eq_cons_iff.mp hm2
  obtain ⟨vm', X', stp⟩ := x_catch (a := x) (g := F0 m pc ls st) X rfl (by rw [hT]; exact g1) (fun k q => by rw [q] at g2; cases g2) ⟨kV, hkV⟩ L1 z L3 hL
    (fun q hq => hd_N.lk hpl hc g3 (hp1 _ (by rw [← hm1]; exact List.mem_map_of_mem hq))) (hd_Y.lk hpl hc g3 (by rw [hz]; exact hp2))
  have hhp : z.handlerPc = hp := congrArg (fun q => q.2.2.1) hz
  rw [hhp] at stp
  obtain ⟨t2, a1, b1⟩ := kk (T.setVm vm') hT X'
  exact ⟨t2, stp t2 a1, b1⟩
theorem x_nI {mc ms : Nat} {st0 : List Value} {F : Rs_t} {rest : Int32 → Hs_t → Rs_t} (hL : Lo_k s0 locs) (heq : bn_I F rest = some r) (hr : ∀ r0, F = some r0 → x_Run G s0 p l e R s m args below meth c H locs cells slots mc ms (F0 m pc ls st0) st r0)
    (kk : ∀ (v : Int32) (h1 : Hs_t) (H1 : Heap) (locs1 : List Loc), Rp_h G s0.heap h1 H1 → Lo_k s0 locs1 → rest v h1 = some r → W p l e R s m args below meth c H1 locs1 (cells + mc) (slots + ms) Q (F0 m (pc + 3) ls (.int v :: st))) : W p l e R s m args below meth c H locs cells slots Q (F0 m pc ls st0) := by
  unfold bn_I at heq
  split at heq
  · rename_i _ v h1
    intro T hT X
    obtain ⟨T', L, X', hLb, hRep, hrt, -⟩ := hr _ rfl T hT X
    obtain ⟨t, a1, b1⟩ := kk v h1 T'.heap _ hRep (lo_app hL hLb) heq T' rfl X'
    exact ⟨t, hrt _ rfl t a1, b1⟩
  · cases heq
theorem x_nL {mc ms : Nat} {st0 : List Value} {F : Rs_t} {rest : Int64 → Hs_t → Rs_t} (hL : Lo_k s0 locs) (heq : bn_L F rest = some r) (hr : ∀ r0, F = some r0 → x_Run G s0 p l e R s m args below meth c H locs cells slots mc ms (F0 m pc ls st0) st r0)
    (kk : ∀ (v : Int64) (h1 : Hs_t) (H1 : Heap) (locs1 : List Loc), Rp_h G s0.heap h1 H1 → Lo_k s0 locs1 → rest v h1 = some r → W p l e R s m args below meth c H1 locs1 (cells + mc) (slots + ms) Q (F0 m (pc + 3) ls (.long v :: st))) : W p l e R s m args below meth c H locs cells slots Q (F0 m pc ls st0) := by
  unfold bn_L at heq
  split at heq
  · rename_i _ v h1
    intro T hT X
    obtain ⟨T', L, X', hLb, hRep, hrt, -⟩ := hr _ rfl T hT X
    obtain ⟨t, a1, b1⟩ := kk v h1 T'.heap _ hRep (lo_app hL hLb) heq T' rfl X'
    exact ⟨t, hrt _ rfl t a1, b1⟩
  · cases heq
theorem x_nV {mc ms : Nat} {st0 : List Value} {F : Rs_t} {rest : Hs_t → Rs_t} (hL : Lo_k s0 locs) (heq : bn_V F rest = some r) (hr : ∀ r0, F = some r0 → x_Run G s0 p l e R s m args below meth c H locs cells slots mc ms (F0 m pc ls st0) st r0)
    (kk : ∀ (h1 : Hs_t) (H1 : Heap) (locs1 : List Loc), Rp_h G s0.heap h1 H1 → Lo_k s0 locs1 → rest h1 = some r → W p l e R s m args below meth c H1 locs1 (cells + mc) (slots + ms) Q (F0 m (pc + 3) ls st)) : W p l e R s m args below meth c H locs cells slots Q (F0 m pc ls st0) := by
  unfold bn_V at heq
  split at heq
  · rename_i _ h1
    intro T hT X
    obtain ⟨T', L, X', hLb, hRep, hrt, -⟩ := hr _ rfl T hT X
    obtain ⟨t, a1, b1⟩ := kk h1 T'.heap _ hRep (lo_app hL hLb) heq T' rfl X'
    exact ⟨t, hrt _ rfl t a1, b1⟩
  · cases heq
end HD
