def R_law : String := "StreamTowerLaw"
def lw_P (b : Addr) (xs : List Int32) (args : Array Value) (s : State) : Prop := args = #[.ref b] ∧ s.IntsAt b xs ∧ xs.length ≤ 1536 ∧ (Jvm.Cond.and given_1 narrow_1).before args s = true
def lw_Q (_ : Array Value) (s : State) (o : Outcome) (t : State) : Prop := o = .returned (some (.int 1)) ∧ Framed s o t [] 601024 7293034
def lw_Z (below : List Frame) (a : Array Value) (s : State) : State → Prop := fun t => ∃ o, t.status = .running ∧ Ended t below o ∧ lw_Q a s o t
/-- the law's own end, with 1 on the stack, nothing written that was there before, its room as the claim has it -/
theorem lw_ret {p : Program} {l : Launch} {e : Env} {s : State} {m : MethodId} {below : List Frame} {meth : Method} {c : Code} {b : Nat} (hx : p.tables.exec = Jvm.exec) (hb : c.code = code) (hr : meth.sig.returnType = ret) (hlocks : meth.locks = false) {pc : Nat} {H : Heap} {ls : Array Slot} (hdg : decode code pc = .ok (.ireturn, 1)) : W p l e room_1 s m #[Value.ref b] below meth c H [] 601024 7293034 (lw_Z below #[Value.ref b] s) (F0 m pc ls [.int 1]) := by
  intro T hT X
  obtain ⟨fs, hret, hrun, hended, hW, hframe⟩ := X.leave (v := some (.int 1)) (hlocks := hlocks) (fun h => by rw [hr] at h; cases h)
  have hmeth' : T.vm.method? m = some meth := X.method'
  refine ⟨T.setFrames fs, ?_, .returned (some (.int 1)), hrun, hended, rfl, ⟨_, rfl⟩, hW, hframe⟩
  jvm_step X.here [X.here.top, hx, hb, hdg, hmeth', hr, ret, narrow_b1]
  (try refine ⟨rfl, ?_⟩); (try refine ⟨rfl, ?_⟩)
  first | (intro acts; rw [hret _ acts rfl rfl rfl]) | rw [hret _ _ rfl rfl rfl]
  exact Steps.refl _
/-- what holds at the law's entry: the machine, the code, the tables' words (any of lw_tbl by 'hts w (by decide +kernel)'), the script of L ints xs at the cell b, what the Statement gives of the start (any of its parts by flat_of_before) -/
def lw_At (p : Program) (s : State) (m : MethodId) (meth : Method) (c : Code) (b L : Nat) (xs : Nat → Int32) : Prop :=
  p.tables.exec = Jvm.exec ∧ c.code = code ∧ meth.sig.returnType = ret ∧ c.maxLocals = 8 ∧ s.vm.findClass R_law = some m.cls ∧ (∀ w ∈ lw_tbl, w.before #[Value.ref b] s = true) ∧ va_X b L xs s s.heap ∧ b < s.heap.size ∧ meth.locks = false ∧ (Jvm.Cond.and given_1 narrow_1).before #[Value.ref b] s = true
/-! Rows of the law's own method: the script, the end. -/
def sc_Ok (b scL : Nat) (scX : Nat → Int32) (s : State) : Prop := va_X b scL scX s s.heap ∧ b < s.heap.size
def sc_A (scL : Nat) (scX : Nat → Int32) (i : Int32) : Option Int32 := if in_R i scL then some (scX i.toNatClampNeg) else none
section SC
variable {p : Program} {l : Launch} {e : Env} {s : State} {m : MethodId} {below : List Frame} {meth : Method} {c : Code} {H : Heap} {locs : List Loc} {cells slots : Nat} {Q : State → Prop} {args : Array Value} {R : Room}
variable {A0 : Array Value} {G : Gx_t} {y : MethodName} {cc : ByteArray} {nL : Nat} {rt : Option FieldType} {hh : List (Nat × Nat × Nat × Nat)} {pc : Nat} {ls : Array Slot} {st : List Value} {h : Hs_t} {r : Outcome × Hs_t} {b scL : Nat} {scX : Nat → Int32}
theorem x_sc {i : Int32} {rest : Int32 → Rs_t} (hc : Cx_t p s m meth c s A0 l G y cc nL rt hh) (hR : Rp_h G s.heap h H) (hX : sc_Ok b scL scX s) (heq : (sc_A scL scX i).bind rest = some r) (hdg : decode cc pc = .ok (.iaload, 1))
    (kk : ∀ v : Int32, rest v = some r → W p l e R s m args below meth c H locs cells slots Q (F0 m (pc + 1) ls (.int v :: st))) : W p l e R s m args below meth c H locs cells slots Q (F0 m pc ls (.int i :: .ref b :: st)) := by
  unfold sc_A at heq
  split at heq
  · rename_i hi
    have hin := in_R_in hi
    obtain ⟨⟨scr, h1, h2, h3, h4, h5⟩, hb⟩ := hX
    have hlt : i.toNatClampNeg < scL := Nat.not_le.mp fun q => hin (Or.inr q)
    exact W.iald (v := .int (scX i.toNatClampNeg)) hc.x hc.b (by rw [hR.2.2.1 b hb]; exact h1) h2 h3 (by rw [h4]; exact hin) (h5 _ hlt) rfl rfl hdg (kk _ heq)
  · cases heq
theorem x_scl (hc : Cx_t p s m meth c s A0 l G y cc nL rt hh) (hR : Rp_h G s.heap h H) (hX : sc_Ok b scL scX s) (hdg : decode cc pc = .ok (.arraylength, 1))
    (kk : W p l e R s m args below meth c H locs cells slots Q (F0 m (pc + 1) ls (.int (Int32.ofNat scL) :: st))) : W p l e R s m args below meth c H locs cells slots Q (F0 m pc ls (.ref b :: st)) := by
  obtain ⟨⟨scr, h1, h2, h3, h4, h5⟩, hb⟩ := hX
  exact W.alen (n := Int32.ofNat scL) hc.x hc.b (by rw [hR.2.2.1 b hb]; exact h1) h2 (by rw [h4] <;> rfl) rfl rfl hdg kk
theorem x_lend (hc : Cx_t p s m meth c s A0 l G y code nL ret hh) (hL : Lo_k s locs) (hdg : decode code pc = .ok (.ireturn, 1)) (h1 : cells ≤ 601024) (h2 : slots ≤ 7293034) : W p l e room_1 s m #[Value.ref b] below meth c H locs cells slots (lw_Z below #[Value.ref b] s) (F0 m pc ls [.int 1]) :=
  va_forget hL (W.widen h1 h2 (lw_ret hc.x hc.b hc.r hc.k hdg))
end SC
