/-! The judgement, and rows. -/
/-- the words of the tables and the classes' numbers, at the law's entry -/
def G_0 (l : Launch) (s0 : State) (A0 : Array Value) (G : Gx_t) : Prop := (∀ w ∈ lw_tbl, w.before A0 s0 = true) ∧ va_K G.1 cl_L (ex_Ty G) s0 ∧ l.stackTraces = false ∧ (Cond.isRef (.static Bundle.tN "UNASSIGNED_STACK" Bundle.steD)).before A0 s0 = true ∧ (Cond.isRef (.static Bundle.tN "SUPPRESSED_SENTINEL" Bundle.listD)).before A0 s0 = true ∧ ∀ q ∈ nc_L, va_Nc q.1 q.2 s0
def Cx_t (p : Program) (s : State) (m : MethodId) (meth : Method) (c : Code) (s0 : State) (A0 : Array Value) (l : Launch) (G : Gx_t) (y : MethodName) (cc : ByteArray) (nL : Nat) (ret : Option FieldType) (hh : List (Nat × Nat × Nat × Nat)) : Prop :=
  p.tables.exec = Jvm.exec ∧ c.code = cc ∧ c.maxLocals = nL ∧ meth.sig.returnType = ret ∧ meth.locks = false ∧ c.exceptionTable.toList.map (fun h => (h.startPc, h.endPc, h.handlerPc, h.catchType)) = hh ∧ s.vm.findClass y.cls = some m.cls ∧ meth.name = y.name ∧ s0.WarmedH s.vm ∧ (∀ q : Nat, q < s0.heap.size → s.heap[q]? = s0.heap[q]?) ∧ G_0 l s0 A0 G
section CX
variable {p : Program} {s : State} {m : MethodId} {meth : Method} {c : Code} {s0 : State} {A0 : Array Value} {l : Launch} {G : Gx_t} {y : MethodName} {cc : ByteArray} {nL : Nat} {ret : Option FieldType} {hh : List (Nat × Nat × Nat × Nat)}
theorem Cx_t.x (h : Cx_t p s m meth c s0 A0 l G y cc nL ret hh) : p.tables.exec = Jvm.exec := h.1
theorem Cx_t.b (h : Cx_t p s m meth c s0 A0 l G y cc nL ret hh) : c.code = cc := h.2.1
theorem Cx_t.ml (h : Cx_t p s m meth c s0 A0 l G y cc nL ret hh) : c.maxLocals = nL := h.2.2.1
theorem Cx_t.r (h : Cx_t p s m meth c s0 A0 l G y cc nL ret hh) : meth.sig.returnType = ret := h.2.2.2.1
theorem Cx_t.k (h : Cx_t p s m meth c s0 A0 l G y cc nL ret hh) : meth.locks = false := h.2.2.2.2.1
theorem Cx_t.t (h : Cx_t p s m meth c s0 A0 l G y cc nL ret hh) : c.exceptionTable.toList.map (fun h => (h.startPc, h.endPc, h.handlerPc, h.catchType)) = hh := h.2.2.2.2.2.1
theorem Cx_t.o (h : Cx_t p s m meth c s0 A0 l G y cc nL ret hh) : s.vm.findClass y.cls = some m.cls := h.2.2.2.2.2.2.1
theorem Cx_t.n (h : Cx_t p s m meth c s0 A0 l G y cc nL ret hh) : meth.name = y.name := h.2.2.2.2.2.2.2.1
theorem Cx_t.w0 (h : Cx_t p s m meth c s0 A0 l G y cc nL ret hh) : s0.WarmedH s.vm := h.2.2.2.2.2.2.2.2.1
theorem Cx_t.hp (h : Cx_t p s m meth c s0 A0 l G y cc nL ret hh) : ∀ q : Nat, q < s0.heap.size → s.heap[q]? = s0.heap[q]? := h.2.2.2.2.2.2.2.2.2.1
theorem Cx_t.g (h : Cx_t p s m meth c s0 A0 l G y cc nL ret hh) : G_0 l s0 A0 G := h.2.2.2.2.2.2.2.2.2.2
theorem Cx_t.w (h : Cx_t p s m meth c s0 A0 l G y cc nL ret hh) {args : Array Value} {w : Cond} (hw : ex_W w) : w.before args s = true := ex_warm h.w0 hw.2 (h.g.1 w hw.1)
theorem Cx_t.K (h : Cx_t p s m meth c s0 A0 l G y cc nL ret hh) : va_K G.1 cl_L (ex_Ty G) s := va_K.moved h.w0.alike h.g.2.1
theorem Cx_t.nc (h : Cx_t p s m meth c s0 A0 l G y cc nL ret hh) {C T : String} (hq : (C, T) ∈ nc_L) : va_Nc C T s := va_Nc.moved h.w0.alike (h.g.2.2.2.2.2 (C, T) hq)
theorem Cx_t.off (h : Cx_t p s m meth c s0 A0 l G y cc nL ret []) (pc : Nat) : ∀ x ∈ c.exceptionTable.toList, covers x pc = false := by
  have h1 := h.t
  simp only [List.map_eq_nil_iff] at h1
  rw [h1]
  intro x hx
  cases hx
end CX
def xn_End (st t : State) (L : List Loc) (k n : Nat) : Prop := st.WarmedH t.vm ∧ st.sameButNew ({ t with vm := st.vm } : State) L k n
def xq_MQ (G : Gx_t) (s0 : State) (below : List Frame) (r : Outcome × Hs_t) (s : State) (mc ms : Nat) : State → Prop := fun t =>
  ∃ o, t.status = .running ∧ Ended t below o ∧ (o = r.1 ∧ Rp_h G s0.heap r.2 t.heap) ∧ ∃ L, xn_End s t L mc ms ∧ ∀ q ∈ L, s0.heap.size ≤ q.base
def xp_Pc (G : Gx_t) (s0 : State) (vs : List Value) (h : Hs_t) : Array Value → State → Prop := fun a U => a = vs.toArray ∧ s0.WarmedH U.vm ∧ Rp_h G s0.heap h U.heap
/-- the method y, of that code word, called with vs on a machine that holds h, ends as r says -/
def M_X (G : Gx_t) (s0 : State) (l : Launch) (y : MethodName) (w : Cond) (rm : Room) (vs : List Value) (h : Hs_t) (r : Outcome × Hs_t) : Prop :=
  MetFree l y (headSpec [w] rm) (xp_Pc G s0 vs h) (fun _ _ _ _ _ => True) (fun _ st o t => (o = r.1 ∧ Rp_h G s0.heap r.2 t.heap) ∧ ∃ L, xn_End st t L rm.cells rm.slots ∧ ∀ q ∈ L, s0.heap.size ≤ q.base)
theorem M_X.of {G : Gx_t} {s0 : State} {A0 : Array Value} {l : Launch} {y : MethodName} {cc : ByteArray} {nL : Nat} {ret : Option FieldType} {rm : Room} {vs : List Value} {h : Hs_t} {r : Outcome × Hs_t} (hy : plainName y.cls = true) (hG : G_0 l s0 A0 G)
    (body : ∀ (p : Program) (e : Env) (s : State) (m : MethodId) (below : List Frame) (meth : Method) (c : Code) (H : Heap), Cx_t p s m meth c s0 A0 l G y cc nL ret [] → Rp_h G s0.heap h H → W p l e rm s m vs.toArray below meth c H [] 0 0 (xq_MQ G s0 below r s rm.cells rm.slots) (entryFrame m vs.toArray nL)) :
    M_X G s0 l y (.code y cc nL ret) rm vs h r := by
  refine MetFree.of_bodyS (code := cc) (maxLocals := nL) (ret := ret) hy ?_ ?_
  · intro args s m h hn
    obtain ⟨meth, c, h1, h2, h3, h4, h5, h6, -, -⟩ := Cond.code_spec hn (atoms_spec (ws := [Cond.code y cc nL ret]) h _ List.mem_cons_self)
    exact ⟨meth, c, h1, h2, h3, h4, h5, h6⟩
  · intro p e s m args below meth c s₁ B hml hP _
    obtain ⟨rfl, hW, hR⟩ := hP
    have hh0 : s₁.heap = s.heap := by rw [B.state]; rfl
    have hcode := atoms_spec (ws := [Cond.code y cc nL ret]) B.pre _ List.mem_cons_self
    have hxt : c.exceptionTable.toList = [] := by
      have h9 := BodyLoose.noHandlers B hcode
      simpa using h9
    obtain ⟨t, a1, o, b1, b2, b3⟩ := body p e s m below meth c s.heap ⟨B.exec, B.bytes, hml, B.returns, B.notSynchronized, by rw [hxt]; rfl, findClass_of_methodNamed B.named, (name_of_methodNamed B.named B.method).1, hW, hR.2.2.1, hG⟩ hR s₁ hh0 (Stand.of_body B)
    exact ⟨t, o, a1, b1, b2, b3⟩
theorem M_X.ofH {G : Gx_t} {s0 : State} {A0 : Array Value} {l : Launch} {y : MethodName} {cc : ByteArray} {nL : Nat} {ret : Option FieldType} {hh : List (Nat × Nat × Nat × Nat)} {rm : Room} {vs : List Value} {h : Hs_t} {r : Outcome × Hs_t} (hy : plainName y.cls = true) (hG : G_0 l s0 A0 G)
    (body : ∀ (p : Program) (e : Env) (s : State) (m : MethodId) (below : List Frame) (meth : Method) (c : Code) (H : Heap), Cx_t p s m meth c s0 A0 l G y cc nL ret hh → Rp_h G s0.heap h H → W p l e rm s m vs.toArray below meth c H [] 0 0 (xq_MQ G s0 below r s rm.cells rm.slots) (entryFrame m vs.toArray nL)) :
    M_X G s0 l y (.codeWith y cc nL ret hh) rm vs h r := by
  refine MetFree.of_bodyS (code := cc) (maxLocals := nL) (ret := ret) hy ?_ ?_
  · intro args s m h hn
    obtain ⟨m9, meth, c, hn9, h1, h2, h3, h4, -, h5, h6, -⟩ := Cond.codeWith_spec (atoms_spec (ws := [Cond.codeWith y cc nL ret hh]) h _ List.mem_cons_self)
    cases hn.symm.trans hn9
    exact ⟨meth, c, h1, h2, h3, h4, h5, h6⟩
  · intro p e s m args below meth c s₁ B hml hP _
    obtain ⟨rfl, hW, hR⟩ := hP
    have hh0 : s₁.heap = s.heap := by rw [B.state]; rfl
    obtain ⟨m9, meth9, c9, hn9, h1, h2, -, -, h4, -, -, -⟩ := Cond.codeWith_spec (atoms_spec (ws := [Cond.codeWith y cc nL ret hh]) B.pre _ List.mem_cons_self)
    cases B.named.symm.trans hn9
    cases B.method.symm.trans h1
    cases (Stand.of_body B).code.symm.trans h2
    obtain ⟨t, a1, o, b1, b2, b3⟩ := body p e s m below meth c s.heap ⟨B.exec, B.bytes, hml, B.returns, B.notSynchronized, h4, findClass_of_methodNamed B.named, (name_of_methodNamed B.named B.method).1, hW, hR.2.2.1, hG⟩ hR s₁ hh0 (Stand.of_body B)
    exact ⟨t, o, a1, b1, b2, b3⟩
section RX
variable {p : Program} {l : Launch} {e : Env} {R : Room} {s : State} {m : MethodId} {args : Array Value} {below : List Frame} {meth : Method} {c : Code} {H : Heap} {locs : List Loc} {cells slots : Nat} {Q : State → Prop}
variable {s0 : State} {A0 : Array Value} {G : Gx_t} {y : MethodName} {cc : ByteArray} {nL : Nat} {ret : Option FieldType} {hh : List (Nat × Nat × Nat × Nat)} {pc : Nat} {ls : Array Slot} {st : List Value} {h : Hs_t} {r : Outcome × Hs_t} {a : Nat}
theorem xw_mono {Q' : State → Prop} {g : JFrame} (hq : ∀ t, Q t → Q' t) (k : W p l e R s m args below meth c H locs cells slots Q g) : W p l e R s m args below meth c H locs cells slots Q' g := by
  intro T hT X
  obtain ⟨t, a1, b1⟩ := k T hT X
  exact ⟨t, a1, hq t b1⟩
theorem xw_end {mc ms : Nat} {t : State} (h1 : cells ≤ mc) (h2 : slots ≤ ms) (hq : MQ below (fun _ _ o t => o = r.1 ∧ Rp_h G s0.heap r.2 t.heap) args s cells slots (fun q => s0.heap.size ≤ q) t) : xq_MQ G s0 below r s mc ms t := by
  obtain ⟨o, q1, q2, q3, L, ⟨-, q4, q5⟩, q6⟩ := hq
  exact ⟨o, q1, q2, q3, L, ⟨q4, q5.mono h1 h2⟩, q6⟩
/-- no slot of an old cell has been written -/
abbrev Lo_k (s0 : State) (locs : List Loc) : Prop := ∀ q ∈ locs, s0.heap.size ≤ q.base
theorem x_iret {v : Int32} (hc : Cx_t p s m meth c s0 A0 l G y cc nL (some .int) hh) (hR : Rp_h G s0.heap h H) (hL : Lo_k s0 locs) (hce : cells ≤ R.cells ∧ slots ≤ R.slots) (heq : re_I v h = some r) (hdg : decode cc pc = .ok (.ireturn, 1)) : W p l e R s m args below meth c H locs cells slots (xq_MQ G s0 below r s R.cells R.slots) (F0 m pc ls [.int v]) := by
  cases heq
  have hlocks := hc.k
  exact xw_mono (fun t => xw_end hce.1 hce.2) (W.iret hc.x hc.b hc.r (fun t ht _ => ⟨rfl, by rw [ht]; exact hR⟩) hL hdg)
theorem x_zret {v : Int32} (hc : Cx_t p s m meth c s0 A0 l G y cc nL (some .boolean) hh) (hR : Rp_h G s0.heap h H) (hL : Lo_k s0 locs) (hce : cells ≤ R.cells ∧ slots ≤ R.slots) (heq : re_Z v h = some r) (hdg : decode cc pc = .ok (.ireturn, 1)) : W p l e R s m args below meth c H locs cells slots (xq_MQ G s0 below r s R.cells R.slots) (F0 m pc ls [.int v]) := by
  unfold re_Z is_Z at heq
  split at heq
  · rename_i hz
    cases heq
    have hlocks := hc.k
    simp only [Bool.or_eq_true, decide_eq_true_eq] at hz
    exact xw_mono (fun t => xw_end hce.1 hce.2) (W.zret hc.x hc.b hc.r (by rcases hz with rfl | rfl <;> rfl) (fun t ht _ => ⟨rfl, by rw [ht]; exact hR⟩) hL hdg)
  · cases heq
theorem x_lret {v : Int64} (hc : Cx_t p s m meth c s0 A0 l G y cc nL (some .long) hh) (hR : Rp_h G s0.heap h H) (hL : Lo_k s0 locs) (hce : cells ≤ R.cells ∧ slots ≤ R.slots) (heq : re_L v h = some r) (hdg : decode cc pc = .ok (.lreturn, 1)) : W p l e R s m args below meth c H locs cells slots (xq_MQ G s0 below r s R.cells R.slots) (F0 m pc ls [.long v]) := by
  cases heq
  have hlocks := hc.k
  exact xw_mono (fun t => xw_end hce.1 hce.2) (W.lret hc.x hc.b hc.r (fun t ht _ => ⟨rfl, by rw [ht]; exact hR⟩) hL hdg)
theorem x_aret {v : Nat} {C : String} (hc : Cx_t p s m meth c s0 A0 l G y cc nL (some (.object C)) hh) (hR : Rp_h G s0.heap h H) (hL : Lo_k s0 locs) (hce : cells ≤ R.cells ∧ slots ≤ R.slots) (heq : re_A v h = some r) (hdg : decode cc pc = .ok (.areturn, 1)) : W p l e R s m args below meth c H locs cells slots (xq_MQ G s0 below r s R.cells R.slots) (F0 m pc ls [.ref v]) := by
  cases heq
  have hlocks := hc.k
  exact xw_mono (fun t => xw_end hce.1 hce.2) (W.aret hc.x hc.b hc.r (Or.inl ⟨_, rfl⟩) (Or.inr ⟨_, rfl⟩) (fun t ht _ => ⟨rfl, by rw [ht]; exact hR⟩) hL hdg)
theorem x_vret (hc : Cx_t p s m meth c s0 A0 l G y cc nL none hh) (hR : Rp_h G s0.heap h H) (hL : Lo_k s0 locs) (hce : cells ≤ R.cells ∧ slots ≤ R.slots) (heq : re_V h = some r) (hdg : decode cc pc = .ok (.return_, 1)) : W p l e R s m args below meth c H locs cells slots (xq_MQ G s0 below r s R.cells R.slots) (F0 m pc ls []) := by
  cases heq
  have hlocks := hc.k
  exact xw_mono (fun t => xw_end hce.1 hce.2) (W.vret hc.x hc.b hc.r (fun t ht _ => ⟨rfl, by rw [ht]; exact hR⟩) hL hdg)
theorem x_athrow {v : Nat} (hc : Cx_t p s m meth c s0 A0 l G y cc nL ret []) (hR : Rp_h G s0.heap h H) (hL : Lo_k s0 locs) (hce : cells ≤ R.cells ∧ slots ≤ R.slots) (heq : re_T v h = some r) (hdg : decode cc pc = .ok (.athrow, 1)) : W p l e R s m args below meth c H locs cells slots (xq_MQ G s0 below r s R.cells R.slots) (F0 m pc ls (.ref v :: st)) := by
  cases heq
  intro T hT X
  have hlocks := hc.k
  obtain ⟨q1, q2, q3, q4, q5⟩ := X.athrowLeaves hc.x (g := F0 m pc ls (.ref v :: st)) rfl rfl rfl (hc.off pc) rfl (by rw [hc.b]; exact hdg) (hlocks := hlocks)
  exact ⟨_, q1, _, q2, q3, ⟨rfl, by show Rp_h G s0.heap h T.heap; rw [hT]; exact hR⟩, locs, ⟨q4, q5.mono hce.1 hce.2⟩, hL⟩
/-- where the field k of the classes ts is named by a class file's entry -/
def fl_Ok (own : String) (index : Nat) (ref nm ds dc : String) (ts : List Nat) (k : Nat) (fin : Bool) (ty : FieldType) : Prop :=
  ex_W (.fieldLink own index ref nm ds) ∧ parseFieldDescriptor ds = some ty ∧ (dc = ref ∨ ex_W (.sameField ref dc nm ds)) ∧ ∀ t ∈ ts, ∃ (C : String) (T : u_T) (N : Nat), cl_L[t]? = some (C, T, N) ∧ k < N ∧ T k = (dc, nm, ds, fin)
theorem fd_V_spec {ts : List Nat} {k : Nat} {v : Value} (hv : fd_V ts k h a = some v) : ∃ (t : Nat) (fs : List Value), h.2 a = some (.inl (t, fs)) ∧ t ∈ ts ∧ fs[k]? = some v := by
  unfold fd_V at hv
  split at hv
  · rename_i t fs hq
    split at hv
    · rename_i ht
      exact ⟨t, fs, hq, by simpa using ht, hv⟩
    · cases hv
  · cases hv
theorem x_gV {ref nm ds dc : String} {index k : Nat} {ts : List Nat} {fin : Bool} {ty : FieldType} {v : Value} (hc : Cx_t p s m meth c s0 A0 l G y cc nL ret hh) (hR : Rp_h G s0.heap h H) (hF : fl_Ok y.cls index ref nm ds dc ts k fin ty) (hv : fd_V ts k h a = some v) (hdg : decode cc pc = .ok (.getfield index, 3))
    (kk : W p l e R s m args below meth c H locs cells slots Q (F0 m (pc + 3) ls (v :: st))) : W p l e R s m args below meth c H locs cells slots Q (F0 m pc ls (.ref a :: st)) := by
  obtain ⟨t, fs, h1, h2, h3⟩ := fd_V_spec hv
  obtain ⟨C, T, N, e1, e2, e3⟩ := hF.2.2.2 t h2
  have e4 := hF.2.2.1
  have hin := cl_in t C T N e1
  have hlink : (Cond.fieldLink y.cls index ref (T k).2.1 (T k).2.2.1).before args s = true := by rw [e3]; exact hc.w hF.1
  refine va_get (Ts := u_ws C T N) hc.x hc.b (fun w hw => hc.w (hin w hw)) (fun w hw => hw) hc.o hc.K (hR.at1 h1) 0 rfl e1 k e2 hlink (fun x hx => ?_) h3 hdg kk
  rw [e3] at hx ⊢
  rcases e4 with rfl | e4
  · exact hx
  · exact u_same (hc.w (args := args) e4) x hx
theorem x_gI {ref nm ds dc : String} {index k : Nat} {ts : List Nat} {fin : Bool} {ty : FieldType} {rest : Int32 → Rs_t} (hc : Cx_t p s m meth c s0 A0 l G y cc nL ret hh) (hR : Rp_h G s0.heap h H) (hF : fl_Ok y.cls index ref nm ds dc ts k fin ty) (heq : (fd_I ts k h a).bind rest = some r) (hdg : decode cc pc = .ok (.getfield index, 3))
    (kk : ∀ v : Int32, rest v = some r → W p l e R s m args below meth c H locs cells slots Q (F0 m (pc + 3) ls (.int v :: st))) : W p l e R s m args below meth c H locs cells slots Q (F0 m pc ls (.ref a :: st)) := by
  cases hv : fd_V ts k h a with
  | none => simp [fd_I, hv] at heq
  | some v =>
    cases v with
    | int x =>
      simp only [fd_I, hv, Option.bind_some] at heq
      exact x_gV hc hR hF hv hdg (kk x heq)
    | _ => simp [fd_I, hv] at heq
theorem x_gA {ref nm ds dc : String} {index k : Nat} {ts : List Nat} {fin : Bool} {ty : FieldType} {rest : Nat → Rs_t} (hc : Cx_t p s m meth c s0 A0 l G y cc nL ret hh) (hR : Rp_h G s0.heap h H) (hF : fl_Ok y.cls index ref nm ds dc ts k fin ty) (heq : (fd_A ts k h a).bind rest = some r) (hdg : decode cc pc = .ok (.getfield index, 3))
    (kk : ∀ v : Nat, rest v = some r → W p l e R s m args below meth c H locs cells slots Q (F0 m (pc + 3) ls (.ref v :: st))) : W p l e R s m args below meth c H locs cells slots Q (F0 m pc ls (.ref a :: st)) := by
  cases hv : fd_V ts k h a with
  | none => simp [fd_A, hv] at heq
  | some v =>
    cases v with
    | ref x =>
      simp only [fd_A, hv, Option.bind_some] at heq
      exact x_gV hc hR hF hv hdg (kk x heq)
    | _ => simp [fd_A, hv] at heq
theorem pt_V_spec {ts : List Nat} {k : Nat} {v : Value} {h1 : Hs_t} (hv : pt_V ts k h a v = some h1) : ∃ (t : Nat) (fs : List Value), h.2 a = some (.inl (t, fs)) ∧ t ∈ ts ∧ k < fs.length ∧ h1 = hp_S h a (ce_O t (fs.set k v)) := by
  unfold pt_V at hv
  split at hv
  · rename_i t fs hq
    split at hv
    · rename_i ht
      simp only [Bool.and_eq_true, decide_eq_true_eq] at ht
      exact ⟨t, fs, hq, by simpa using ht.1, ht.2, (Option.some.inj hv).symm⟩
    · cases hv
  · cases hv
theorem lo_put {i : Nat} (hL : Lo_k s0 locs) (ha : s0.heap.size ≤ a) : Lo_k s0 (locs ++ [⟨a, i⟩]) := by
  intro q hq
  rcases List.mem_append.mp hq with h | h
  · exact hL q h
  · rw [List.mem_singleton.mp h]
    exact ha
theorem x_pV {ref nm ds dc : String} {index k : Nat} {ts : List Nat} {fin : Bool} {ty : FieldType} {v : Value} {rest : Hs_t → Rs_t} (hc : Cx_t p s m meth c s0 A0 l G y cc nL ret hh) (hR : Rp_h G s0.heap h H) (hL : Lo_k s0 locs) (hF : fl_Ok y.cls index ref nm ds dc ts k fin ty) (hfin : fin = false ∨ (y.name = "<init>" ∧ dc = y.cls))
    (hn : narrow ty v = v) (hfit : fits ty v = true) (heq : (pt_V ts k h a v).bind rest = some r) (hdg : decode cc pc = .ok (.putfield index, 3))
    (kk : ∀ (h1 : Hs_t) (H1 : Heap) (locs1 : List Loc), Rp_h G s0.heap h1 H1 → Lo_k s0 locs1 → rest h1 = some r → W p l e R s m args below meth c H1 locs1 cells slots Q (F0 m (pc + 3) ls st)) : W p l e R s m args below meth c H locs cells slots Q (F0 m pc ls (v :: .ref a :: st)) := by
  cases hv : pt_V ts k h a v with
  | none => simp [hv] at heq
  | some h1 =>
    simp only [hv, Option.bind_some] at heq
    obtain ⟨t, fs, g1, g2, g3, rfl⟩ := pt_V_spec hv
    obtain ⟨C, T, N, e1, e2, e3⟩ := hF.2.2.2 t g2
    have e4 := hF.2.2.1
    have hinw := cl_in t C T N e1
    have hts : ∀ w ∈ u_ws C T N, w.before args s = true := fun w hw => hc.w (hinw w hw)
    obtain ⟨ty0, hty⟩ := cl_ty t C T N e1
    have hnm := cl_nm t C T N e1
    have hK := hc.K
    have hap := va_apart (own := y.cls) hts (fun w hw => hw) ty0 hty hnm hK e1
    obtain ⟨hbase, hat⟩ := hR.2.2.2 a _ g1
    obtain ⟨rr, h1', cell, q1, q2, q3, q4⟩ := hat
    have hr : rr = (C, T, N) := Option.some.inj (h1'.symm.trans e1)
    subst hr
    obtain ⟨hS, hfc, kC, hkC, hkind⟩ := hK.1 t _ e1
    obtain ⟨cf, kf, fi, f, hi, hsl⟩ := hS k e2
    have hlays := u_lays hts (fun w hw => hw) e2
    have hst := (u_facts hfc hkC hlays hi).1
    have hd : parseFieldDescriptor (T k).2.2.1 = some ty := by rw [e3]; exact hF.2.1
    have hsame : s.fieldFound? ref nm ds = some (cf, kf, fi, f) := by
      have hi : s.fieldFound? (T k).1 (T k).2.1 (T k).2.2.1 = some (cf, kf, fi, f) := hi
      rw [e3] at hi
      rcases e4 with rfl | e4
      · exact hi
      · exact u_same (hc.w (args := args) e4) _ hi
    have hlink : (Cond.fieldLink y.cls index ref nm ds).before args s = true := hc.w hF.1
    have fin' : ∀ (H' : Heap), H'[a]? = some (cell.setSlot f.slot v) → H'.size = H.size → (∀ q, q ≠ a → H'[q]? = H[q]?) → Rp_h G s0.heap (hp_S h a (ce_O t (fs.set k v))) H' := by
      intro H' w1 w2 w3
      rw [hsl] at w1
      exact hR.set g1 ⟨_, e1, t_OB.to (V := updV (vp_V fs) k v) ⟨_, w1, q2, q3, t_set q4 hap e2 v⟩ (fun j _ => vp_updV_set g3 v j)⟩ w2 w3
    have hlt : f.slot < cell.slots.size := by rw [hsl]; exact k2_hasslot (q4 k e2)
    have hlay := hts _ (u_in_lay e2)
    unfold u_lay at hlay
    cases hfv : fin with
    | false =>
      rw [if_neg (by rw [e3, hfv]; exact Bool.false_ne_true)] at hlay
      have h6 := u_store hfc hkC hkind hlay hi hd hn hfit
      exact W.putK hc.x hc.b (f := f) ⟨hc.o, hlink, ⟨_, _, _, hsame⟩, hst⟩ (by rw [q2]; exact h6) q1 q3 hlt rfl rfl hdg fun H' w1 w2 w3 => kk _ H' _ (fin' H' w1 w2 w3) (lo_put hL hbase) heq
    | true =>
      rw [if_pos (by rw [e3, hfv])] at hlay
      rcases hfin with hfin | ⟨hin2, hdco⟩
      · rw [hfv] at hfin; cases hfin
      have hcf : m.cls = cf := by
        obtain ⟨_, _, c', _, _, _, -, -, hf', -, -, -, hown2, -⟩ := Cond.laysFinal_spec hlay
        have e1' : c' = cf := by have := hi.symm.trans hf'; simp at this; exact this.1.symm
        have hdc : (T k).1 = y.cls := by rw [e3]; exact hdco
        rw [hdc] at hown2
        rw [← e1']; exact Option.some.inj (hc.o.symm.trans hown2)
      have h6 := u_fits hfc hkC hkind (Or.inr hlay) hi hd hn hfit
      exact W.putFinK hc.x hc.b hc.o hlink hsame hst hcf (hc.n.trans hin2) (by rw [q2]; exact h6) q1 q3 hlt rfl rfl hdg fun H' w1 w2 w3 => kk _ H' _ (fin' H' w1 w2 w3) (lo_put hL hbase) heq
theorem x_pZ {ref nm ds dc : String} {index k : Nat} {ts : List Nat} {fin : Bool} {v : Int32} {rest : Hs_t → Rs_t} (hc : Cx_t p s m meth c s0 A0 l G y cc nL ret hh) (hR : Rp_h G s0.heap h H) (hL : Lo_k s0 locs) (hF : fl_Ok y.cls index ref nm ds dc ts k fin .boolean) (hfin : fin = false ∨ (y.name = "<init>" ∧ dc = y.cls))
    (heq : (pt_Z ts k h a v).bind rest = some r) (hdg : decode cc pc = .ok (.putfield index, 3))
    (kk : ∀ (h1 : Hs_t) (H1 : Heap) (locs1 : List Loc), Rp_h G s0.heap h1 H1 → Lo_k s0 locs1 → rest h1 = some r → W p l e R s m args below meth c H1 locs1 cells slots Q (F0 m (pc + 3) ls st)) : W p l e R s m args below meth c H locs cells slots Q (F0 m pc ls (.int v :: .ref a :: st)) := by
  unfold pt_Z is_Z at heq
  split at heq
  · rename_i hz
    simp only [Bool.or_eq_true, decide_eq_true_eq] at hz
    exact x_pV hc hR hL hF hfin (by rcases hz with rfl | rfl <;> rfl) (by rcases hz with rfl | rfl <;> rfl) heq hdg kk
  · cases heq
theorem x_aI {i : Int32} {rest : Int32 → Rs_t} (hc : Cx_t p s m meth c s0 A0 l G y cc nL ret hh) (hR : Rp_h G s0.heap h H) (heq : (ar_I h a i).bind rest = some r) (hdg : decode cc pc = .ok (.iaload, 1))
    (kk : ∀ v : Int32, rest v = some r → W p l e R s m args below meth c H locs cells slots Q (F0 m (pc + 1) ls (.int v :: st))) : W p l e R s m args below meth c H locs cells slots Q (F0 m pc ls (.int i :: .ref a :: st)) := by
  unfold ar_I at heq
  split at heq
  · rename_i n f ha
    split at heq
    · rename_i hi
      exact va_iald (t0 := 0) hc.x hc.b hc.K (hR.at1 ha) 0 rfl rfl (in_R_in hi) hdg (kk _ heq)
    · cases heq
  · cases heq
theorem x_aZ {i : Int32} {rest : Int32 → Rs_t} (hc : Cx_t p s m meth c s0 A0 l G y cc nL ret hh) (hR : Rp_h G s0.heap h H) (heq : (ar_Z h a i).bind rest = some r) (hdg : decode cc pc = .ok (.baload, 1))
    (kk : ∀ v : Int32, rest v = some r → W p l e R s m args below meth c H locs cells slots Q (F0 m (pc + 1) ls (.int v :: st))) : W p l e R s m args below meth c H locs cells slots Q (F0 m pc ls (.int i :: .ref a :: st)) := by
  unfold ar_Z at heq
  split at heq
  · rename_i n f ha
    split at heq
    · rename_i hi
      exact va_zald (t0 := 1) hc.x hc.b hc.K (hR.at1 ha) 0 rfl rfl (in_R_in hi) hdg (kk _ heq)
    · cases heq
  · cases heq
theorem x_aL {i : Int32} {rest : Int64 → Rs_t} (hc : Cx_t p s m meth c s0 A0 l G y cc nL ret hh) (hR : Rp_h G s0.heap h H) (heq : (ar_L h a i).bind rest = some r) (hdg : decode cc pc = .ok (.laload, 1))
    (kk : ∀ v : Int64, rest v = some r → W p l e R s m args below meth c H locs cells slots Q (F0 m (pc + 1) ls (.long v :: st))) : W p l e R s m args below meth c H locs cells slots Q (F0 m pc ls (.int i :: .ref a :: st)) := by
  unfold ar_L at heq
  split at heq
  · rename_i n f ha
    split at heq
    · rename_i hi
      exact va_lald (t0 := 2) hc.x hc.b hc.K (hR.at1 ha) 0 rfl rfl (in_R_in hi) hdg (kk _ heq)
    · cases heq
  · cases heq
theorem x_aR {i : Int32} {rest : Option Nat → Rs_t} (hc : Cx_t p s m meth c s0 A0 l G y cc nL ret hh) (hR : Rp_h G s0.heap h H) (heq : (ar_R h a i).bind rest = some r) (hdg : decode cc pc = .ok (.aaload, 1))
    (kn : rest none = some r → W p l e R s m args below meth c H locs cells slots Q (F0 m (pc + 1) ls (.null :: st)))
    (kk : ∀ v : Nat, rest (some v) = some r → W p l e R s m args below meth c H locs cells slots Q (F0 m (pc + 1) ls (.ref v :: st))) : W p l e R s m args below meth c H locs cells slots Q (F0 m pc ls (.int i :: .ref a :: st)) := by
  unfold ar_R at heq
  split at heq
  · rename_i n f ha
    split at heq
    · rename_i hi
      refine va_aldq (t0 := 3) hc.x hc.b hc.K (hR.at1 ha) 0 rfl rfl (in_R_in hi) hdg ?_
      simp only [Option.bind_some] at heq
      cases hf : f i.toNatClampNeg with
      | none => exact kn (by rw [← hf]; exact heq)
      | some v => exact kk v (by rw [← hf]; exact heq)
    · cases heq
  · cases heq
theorem x_len {rest : Int32 → Rs_t} (hc : Cx_t p s m meth c s0 A0 l G y cc nL ret hh) (hR : Rp_h G s0.heap h H) (heq : (ln_A h a).bind rest = some r) (hdg : decode cc pc = .ok (.arraylength, 1))
    (kk : ∀ v : Int32, rest v = some r → W p l e R s m args below meth c H locs cells slots Q (F0 m (pc + 1) ls (.int v :: st))) : W p l e R s m args below meth c H locs cells slots Q (F0 m pc ls (.ref a :: st)) := by
  unfold ln_A at heq
  split at heq
  · rename_i n f ha
    exact va_alen (t0 := 0) hc.x hc.b hc.K (hR.at1 ha) 0 rfl rfl rfl hdg (kk _ heq)
  · rename_i n f ha
    exact va_alen (t0 := 1) hc.x hc.b hc.K (hR.at1 ha) 0 rfl rfl rfl hdg (kk _ heq)
  · rename_i n f ha
    exact va_alen (t0 := 2) hc.x hc.b hc.K (hR.at1 ha) 0 rfl rfl rfl hdg (kk _ heq)
  · rename_i n f ha
    exact va_alen (t0 := 3) hc.x hc.b hc.K (hR.at1 ha) 0 rfl rfl rfl hdg (kk _ heq)
  · cases heq
theorem x_sI {i x : Int32} {rest : Hs_t → Rs_t} (hc : Cx_t p s m meth c s0 A0 l G y cc nL ret hh) (hR : Rp_h G s0.heap h H) (hL : Lo_k s0 locs) (heq : (as_I h a i x).bind rest = some r) (hdg : decode cc pc = .ok (.iastore, 1))
    (kk : ∀ (h1 : Hs_t) (H1 : Heap) (locs1 : List Loc), Rp_h G s0.heap h1 H1 → Lo_k s0 locs1 → rest h1 = some r → W p l e R s m args below meth c H1 locs1 cells slots Q (F0 m (pc + 1) ls st)) : W p l e R s m args below meth c H locs cells slots Q (F0 m pc ls (.int x :: .int i :: .ref a :: st)) := by
  unfold as_I at heq
  split at heq
  · rename_i n f ha
    split at heq
    · rename_i hi
      have hin := in_R_in hi
      obtain ⟨hb, hat⟩ := hR.2.2.2 a _ ha
      refine W.iast hc.x hc.b hat ((hc.K.2 0 _ rfl).1 n (fun j => .int (f j))) (fun q => by cases q) (by show ¬ (i < 0 ∨ (arrV _ _ _).slots.size ≤ _); rw [arrV_size]; exact hin) rfl rfl hdg fun H1 e z oq => ?_
      refine kk _ H1 _ (hR.set ha ?_ z oq) (lo_put hL hb) heq
      show H1[a]? = some (vp_cell _ _)
      rw [e]
      show some ((vp_cell _ _).setSlot _ _) = _
      rw [vp_cell_i, vp_cell_i, arrV_store]
      congr 2
      funext q
      by_cases hq : q = i.toNatClampNeg
      · subst hq
        simp [updV, upd]
      · simp [updV, upd, hq]
    · cases heq
  · cases heq
theorem x_sZ {i x : Int32} {rest : Hs_t → Rs_t} (hc : Cx_t p s m meth c s0 A0 l G y cc nL ret hh) (hR : Rp_h G s0.heap h H) (hL : Lo_k s0 locs) (heq : (as_Z h a i x).bind rest = some r) (hdg : decode cc pc = .ok (.bastore, 1))
    (kk : ∀ (h1 : Hs_t) (H1 : Heap) (locs1 : List Loc), Rp_h G s0.heap h1 H1 → Lo_k s0 locs1 → rest h1 = some r → W p l e R s m args below meth c H1 locs1 cells slots Q (F0 m (pc + 1) ls st)) : W p l e R s m args below meth c H locs cells slots Q (F0 m pc ls (.int x :: .int i :: .ref a :: st)) := by
  unfold as_Z at heq
  split at heq
  · rename_i n f ha
    split at heq
    · rename_i hi
      simp only [Bool.and_eq_true, is_Z, Bool.or_eq_true, decide_eq_true_eq] at hi
      obtain ⟨hi, hz⟩ := hi
      have hin := in_R_in hi
      obtain ⟨hb, hat⟩ := hR.2.2.2 a _ ha
      refine W.zast hc.x hc.b hat ((hc.K.2 1 _ rfl).1 n (fun j => .int (f j))) (fun q => by cases q) (by show ¬ (i < 0 ∨ (arrV _ _ _).slots.size ≤ _); rw [arrV_size]; exact hin) rfl rfl hdg fun H1 e z oq => ?_
      refine kk _ H1 _ (hR.set ha ?_ z oq) (lo_put hL hb) heq
      show H1[a]? = some (vp_cell _ _)
      rw [e]
      show some ((vp_cell _ _).setSlot _ _) = _
      rw [vp_cell_i, vp_cell_i, arrV_store]
      congr 2
      funext q
      have hx : narrow .boolean (.int x) = .int x := by rcases hz with rfl | rfl <;> rfl
      by_cases hq : q = i.toNatClampNeg
      · subst hq
        simp [updV, upd, hx]
      · simp [updV, upd, hq]
    · cases heq
  · cases heq
theorem x_sL {i : Int32} {x : Int64} {rest : Hs_t → Rs_t} (hc : Cx_t p s m meth c s0 A0 l G y cc nL ret hh) (hR : Rp_h G s0.heap h H) (hL : Lo_k s0 locs) (heq : (as_L h a i x).bind rest = some r) (hdg : decode cc pc = .ok (.lastore, 1))
    (kk : ∀ (h1 : Hs_t) (H1 : Heap) (locs1 : List Loc), Rp_h G s0.heap h1 H1 → Lo_k s0 locs1 → rest h1 = some r → W p l e R s m args below meth c H1 locs1 cells slots Q (F0 m (pc + 1) ls st)) : W p l e R s m args below meth c H locs cells slots Q (F0 m pc ls (.long x :: .int i :: .ref a :: st)) := by
  unfold as_L at heq
  split at heq
  · rename_i n f ha
    split at heq
    · rename_i hi
      have hin := in_R_in hi
      obtain ⟨hb, hat⟩ := hR.2.2.2 a _ ha
      refine W.last hc.x hc.b hat ((hc.K.2 2 _ rfl).1 n (fun j => .long (f j))) (fun q => by cases q) (by show ¬ (i < 0 ∨ (arrV _ _ _).slots.size ≤ _); rw [arrV_size]; exact hin) rfl rfl hdg fun H1 e z oq => ?_
      refine kk _ H1 _ (hR.set ha ?_ z oq) (lo_put hL hb) heq
      show H1[a]? = some (vp_cell _ _)
      rw [e]
      show some ((vp_cell _ _).setSlot _ _) = _
      rw [vp_cell_l, vp_cell_l, arrV_store]
      congr 2
      funext q
      by_cases hq : q = i.toNatClampNeg
      · subst hq
        simp [updV, vp_updL]
      · simp [updV, vp_updL, hq]
    · cases heq
  · cases heq
def tg_Ok (nm : String) (ts : List Nat) : Prop := ∀ t ∈ ts, ∃ (C : String) (T : u_T) (N : Nat), cl_L[t]? = some (C, T, N) ∧ ex_W (.castable C nm)
theorem tg_O_spec {t : Nat} (ht : tg_O h a = some t) : ∃ fs : List Value, h.2 a = some (.inl (t, fs)) := by
  unfold tg_O at ht
  split at ht
  · rename_i t' fs hq
    cases ht
    exact ⟨fs, hq⟩
  · cases ht
/-- an object's cell, by its class's number -/
theorem Rp_h.recv {t : Nat} {fs : List Value} {C : String} {T : u_T} {N : Nat} (hc : Cx_t p s m meth c s0 A0 l G y cc nL ret hh) (hR : Rp_h G s0.heap h H) (ha : h.2 a = some (.inl (t, fs))) (e1 : cl_L[t]? = some (C, T, N)) : ∃ cell : Cell, H[a]? = some cell ∧ cell.vm.isStatics = false ∧ s.vm.findClass C = some cell.cls :=
  va_recv (q0 := 0) hc.K (hR.at1 ha) e1 rfl
theorem x_sR {i : Int32} {x : Nat} {ts : List Nat} {rest : Hs_t → Rs_t} (hc : Cx_t p s m meth c s0 A0 l G y cc nL ret hh) (hR : Rp_h G s0.heap h H) (hL : Lo_k s0 locs) (hT : tg_Ok ex_El ts) (heq : (as_R ts h a i x).bind rest = some r) (hdg : decode cc pc = .ok (.aastore, 1))
    (kk : ∀ (h1 : Hs_t) (H1 : Heap) (locs1 : List Loc), Rp_h G s0.heap h1 H1 → Lo_k s0 locs1 → rest h1 = some r → W p l e R s m args below meth c H1 locs1 cells slots Q (F0 m (pc + 1) ls st)) : W p l e R s m args below meth c H locs cells slots Q (F0 m pc ls (.ref x :: .int i :: .ref a :: st)) := by
  unfold as_R at heq
  split at heq
  · rename_i n f ha
    cases htg : tg_O h x with
    | none => simp [htg] at heq
    | some t =>
      simp only [htg] at heq
      split at heq
      · rename_i hi
        simp only [Bool.and_eq_true] at hi
        obtain ⟨hi, hz⟩ := hi
        obtain ⟨fs, hx⟩ := tg_O_spec htg
        obtain ⟨C, T, N, e1, e2⟩ := hT t (by simpa using hz)
        have hin := in_R_in hi
        have hlt : i.toNatClampNeg < n := Nat.not_le.mp fun q => hin (Or.inr q)
        have h0 : ¬ i < 0 := fun q => hin (Or.inl q)
        obtain ⟨hb, hat⟩ := hR.2.2.2 a _ ha
        obtain ⟨cellV, g1, g2, g3⟩ := hR.recv hc hx e1
        obtain ⟨c0, t0, f1, f2, f3⟩ := Cond.castable_spec (hc.w (args := args) e2)
        cases g3.symm.trans f1
        obtain ⟨kA, comp, k1, k2, k3, -⟩ := (hc.K.2 3 _ rfl).2
        cases k3.symm.trans f2
        obtain ⟨kV, hkV, -⟩ := Vm.findClass_spec g3
        obtain ⟨kC, hkC, -⟩ := Vm.findClass_spec f2
        refine W.aast hc.x hc.b hat (fun q h => by cases h) (fun h => by cases h) k1 k2 rfl hkC ⟨h0, by show _ < (arrV _ _ _).slots.size; rw [arrV_size]; exact hlt⟩ g1 (fun q h => by rw [h] at g2; cases g2) hkV f3 rfl rfl hdg fun H1 e z oq => ?_
        refine kk _ H1 _ (hR.set ha ?_ z oq) (lo_put hL hb) heq
        show H1[a]? = some (vp_cell _ _)
        rw [e]
        show some ((vp_cell _ _).setSlot _ _) = _
        rw [vp_cell_q, vp_cell_q, arrV_store]
        congr 2
        funext q
        by_cases hq : q = i.toNatClampNeg
        · subst hq
          simp [updV, va_up, va_rf]
        · simp [updV, va_up, hq]
      · cases heq
  · cases heq
theorem x_cpI {b : Nat} {sp dp n : Int32} {index : Nat} {rest : Hs_t → Rs_t} (hc : Cx_t p s m meth c s0 A0 l G y cc nL ret hh) (hR : Rp_h G s0.heap h H) (hL : Lo_k s0 locs) (hml : ls.size = nL) (w1 : ex_W (.methodLink y.cls index arraycopyName)) (w2 : ex_W (.native arraycopyName)) (w3 : ex_W (.static arraycopyName)) (w4 : ex_W (.initialized "java/lang/System"))
    (hframes : 1 ≤ R.frames) (hlocals : (st.map fun v => v.category).sum + (nativeFrameWords "java/lang/System" "arraycopy" 5 + 11) ≤ R.locals) (heq : (cp_I h a sp b dp n).bind rest = some r) (hdg : decode cc pc = .ok (.invokestatic index, 3))
    (kk : ∀ (h1 : Hs_t) (H1 : Heap) (locs1 : List Loc), Rp_h G s0.heap h1 H1 → Lo_k s0 locs1 → rest h1 = some r → W p l e R s m args below meth c H1 locs1 cells slots Q (F0 m (pc + 3) ls st)) : W p l e R s m args below meth c H locs cells slots Q (F0 m pc ls (.int n :: .int dp :: .ref b :: .int sp :: .ref a :: st)) := by
  unfold cp_I at heq
  split at heq
  · rename_i n0 f n1 g ha hb
    split at heq
    · rename_i hi
      simp only [Bool.and_eq_true, Bool.not_eq_true', decide_eq_false_iff_not, decide_eq_true_eq] at hi
      obtain ⟨⟨⟨⟨h1, h2⟩, h3⟩, h4⟩, h5⟩ := hi
      obtain ⟨hbb, hat1⟩ := hR.2.2.2 b _ hb
      obtain ⟨hba, hat0⟩ := hR.2.2.2 a _ ha
      intro T hT X
      have hc0 : H[a]? = some (vp_cell G.2.1 (n0, .inl f)) := hat0
      have hc1 : H[b]? = some (vp_cell G.2.1 (n1, .inl g)) := hat1
      obtain ⟨-, k0, hk0, cm0, hkk0⟩ := (hc.K.2 0 _ rfl).1 n0 (fun j => .int (f j))
      obtain ⟨-, k1, hk1, cm1, hkk1⟩ := (hc.K.2 0 _ rfl).1 n1 (fun j => .int (g j))
      have nn : ∀ z : Int32, ¬ z < 0 → z.toInt = (z.toNatClampNeg : Int) := by
        intro z hz
        have hz0 : (0 : Int) ≤ z.toInt := by
          have := Int32.not_lt.mp hz
          simpa using Int32.le_iff_toInt_le.mp this
        show z.toInt = ((z.toInt.toNat : Nat) : Int)
        omega
      obtain ⟨vm', X', step⟩ := X.arraycopy hc.x hc.o (hc.w w1) (hc.w w2) (hc.w w3) (hc.w w4) (src := a) (dst := b) (cs := vp_cell G.2.1 (n0, .inl f)) (cd := vp_cell G.2.1 (n1, .inl g)) (srcPos := sp) (destPos := dp) (n := n) (by rw [hT]; exact hc0) (by rw [hT]; exact hc1)
        (fun _ h => by cases h) (fun _ h => by cases h) (fun h => by cases h) (fun h => by cases h) hk0 hk1 hkk0 hkk1 (by simp [refKind]) h1 h2 h3
        (by rw [nn sp h1, nn n h3]; show ¬ _ > ((arrV G.2.1 n0 (fun j => .int (f j))).slots.size : Int); rw [arrV_size]; omega)
        (by rw [nn dp h2, nn n h3]; show ¬ _ > ((arrV G.2.1 n1 (fun j => .int (g j))).slots.size : Int); rw [arrV_size]; omega)
        (fun vm₁ _ i hi => by
          have e : (vp_cell G.2.1 (n0, .inl f)).slots.getD (sp.toNatClampNeg + i) .null = .int (f (sp.toNatClampNeg + i)) := by
            show (arrV G.2.1 n0 (fun j => .int (f j))).slots.getD _ _ = _
            rw [Array.getD_eq_getD_getElem?, arrV_read _ _ (by omega)]
            rfl
          refine ⟨?_, ?_⟩
          · rw [e]
            rfl
          · rw [e]
            exact trivial)
        (g := F0 m pc ls (.int n :: .int dp :: .ref b :: .int sp :: .ref a :: st)) rfl (by rw [hc.ml]; exact hml) (rest := st) rfl (by rw [hc.b]; exact hdg) hframes (by show 2 * 0 + _ + _ ≤ _; omega)
      have e1 : copied (vp_cell G.2.1 (n0, .inl f)) (vp_cell G.2.1 (n1, .inl g)) sp dp n = vp_cell G.2.1 (n1, .inl (va_cpy f g sp.toNatClampNeg dp.toNatClampNeg n.toNatClampNeg)) := va_copied (fun z => .int z) G.2.1 G.2.1 f g h4
      rw [e1] at X' step
      have hl : b < H.size := (Array.getElem?_eq_some_iff.mp hc1).1
      have hheap : ((T.setVm vm').setCell b (vp_cell G.2.1 (n1, .inl (va_cpy f g sp.toNatClampNeg dp.toNatClampNeg n.toNatClampNeg)))).heap = H.setIfInBounds b (vp_cell G.2.1 (n1, .inl (va_cpy f g sp.toNatClampNeg dp.toNatClampNeg n.toNatClampNeg))) := by rw [← hT]; rfl
      have oq : ∀ q : Nat, q ≠ b → (H.setIfInBounds b (vp_cell G.2.1 (n1, .inl (va_cpy f g sp.toNatClampNeg dp.toNatClampNeg n.toNatClampNeg))))[q]? = H[q]? := fun q hq => by simp [Array.getElem?_setIfInBounds, Ne.symm hq]
      obtain ⟨t, a1, b1⟩ := kk _ _ _ (hR.set hb (c := ce_I n1 (va_cpy f g sp.toNatClampNeg dp.toNatClampNeg n.toNatClampNeg)) (show (H.setIfInBounds b _)[b]? = some _ by simp [Array.getElem?_setIfInBounds, hl]) (by simp) oq) (fun q hq => by
          rcases List.mem_append.mp hq with h | h
          · exact hL q h
          · obtain ⟨z, -, hz⟩ := List.mem_map.mp h
            rw [← hz]
            exact hbb) heq _ hheap X'
      exact ⟨t, step t a1, b1⟩
    · cases heq
  · cases heq
theorem x_min {index : Nat} {x z : Int32} (hc : Cx_t p s m meth c s0 A0 l G y cc nL ret hh) (hml : ls.size = nL) (w1 : ex_W (.methodLink y.cls index Lib.Math.min.name)) (w2 : ex_W (.static Lib.Math.min.name)) (w3 : ex_W (.initialized "java/lang/Math")) (w4 : ex_W (.code Lib.Math.min.name Lib.Math.min.code 2 (some .int)))
    (hframes : 1 ≤ R.frames) (hlocals : (st.map fun v => v.category).sum + 13 ≤ R.locals) (hce : cells ≤ R.cells ∧ slots ≤ R.slots) (hdg : decode cc pc = .ok (.invokestatic index, 3))
    (kk : W p l e R s m args below meth c H locs cells slots Q (F0 m (pc + 3) ls (.int (if z < x then z else x) :: st))) : W p l e R s m args below meth c H locs cells slots Q (F0 m pc ls (.int z :: .int x :: st)) :=
  va_mmin hc.x hc.b (hc.ml.trans hml.symm) hc.o (hc.w w1) (hc.w w2) (hc.w w3) (hc.w w4) hframes hlocals hce.1 hce.2 hdg kk
/-- new: an object of the class number t -/
def nw_Ok (own : String) (index : Nat) (t N : Nat) (fs : List Value) : Prop := ∃ (C : String) (T : u_T) (ty : Nat → FieldType), cl_L[t]? = some (C, T, N) ∧ ex_W (.classLink own index C) ∧ ex_W (.instantiable C N) ∧ ex_W (.initialized C) ∧ (∀ k, k < N → parseFieldDescriptor (T k).2.2.1 = some (ty k)) ∧ ∀ j, j < N → defaultValue (ty j) = vp_V fs j
def nw_O (t : Nat) (fs : List Value) (h : Hs_t) : Option Hs_t := some (hp_N h (ce_O t fs))
theorem x_new {index t N : Nat} {fs : List Value} {rest : Hs_t → Rs_t} (hc : Cx_t p s m meth c s0 A0 l G y cc nL ret hh) (hR : Rp_h G s0.heap h H) (hN : nw_Ok y.cls index t N fs) (hce : cells + 1 ≤ R.cells ∧ slots + N ≤ R.slots) (heq : (nw_O t fs h).bind rest = some r) (hdg : decode cc pc = .ok (.new index, 3))
    (kk : ∀ (h1 : Hs_t) (H1 : Heap), Rp_h G s0.heap h1 H1 → rest h1 = some r → W p l e R s m args below meth c H1 locs (cells + 1) (slots + N) Q (F0 m (pc + 3) ls (.ref h.1 :: st))) : W p l e R s m args below meth c H locs cells slots Q (F0 m pc ls st) := by
  obtain ⟨C, T, ty, e1, w1, w2, w3, hty, hfs⟩ := hN
  have hKn := hc.K.1 t _ e1
  have hinw := cl_in t C T N e1
  have hts : ∀ w ∈ u_ws C T N, w.before args s = true := fun w hw => hc.w (hinw w hw)
  refine W.newcK hc.x hc.b hc.o (hc.w w1) (hc.w w2) (hc.w w3) rfl hdg hce.1 hce.2 hKn.2.1 hR.1 fun H1 kC hkC e1' z1 o1 => ?_
  have hs := hR.1
  refine kk _ H1 (hR.new (c := ce_O t fs) (by omega) (fun q hq => o1 q (by omega)) ?_) heq
  rw [hs]
  exact ⟨_, e1, (u_born ty hts (fun w hw => hw) hKn hkC e1' hty).to hfs⟩
def nw_I (mx : Nat) (n : Int32) (h : Hs_t) : Option Hs_t := if !decide (n < 0) && decide (n.toNatClampNeg ≤ mx) then some (hp_N h (ce_I n.toNatClampNeg (fun _ => 0))) else none
theorem x_newI {n : Int32} {mx : Nat} {rest : Hs_t → Rs_t} (hc : Cx_t p s m meth c s0 A0 l G y cc nL ret hh) (hR : Rp_h G s0.heap h H) (w1 : ex_W (.arrayClass (newarray.typeOf .int))) (hb : mx ≤ 1000) (hce : cells + 1 ≤ R.cells ∧ slots + mx ≤ R.slots) (heq : (nw_I mx n h).bind rest = some r) (hdg : decode cc pc = .ok (.newarray .int, 2))
    (kk : ∀ (h1 : Hs_t) (H1 : Heap), Rp_h G s0.heap h1 H1 → rest h1 = some r → W p l e R s m args below meth c H1 locs (cells + 1) (slots + mx) Q (F0 m (pc + 2) ls (.ref h.1 :: st))) : W p l e R s m args below meth c H locs cells slots Q (F0 m pc ls (.int n :: st)) := by
  unfold nw_I at heq
  split at heq
  · rename_i hi
    simp only [Bool.and_eq_true, Bool.not_eq_true', decide_eq_false_iff_not, decide_eq_true_eq] at hi
    obtain ⟨hn, hm⟩ := hi
    refine va_newaK hc.x hc.b (hc.w w1) rfl hdg rfl hn rfl (by show n.toNatClampNeg * 4 ≤ _; omega) hce.1 (by omega) hR.1 fun H1 cA e1 z1 o1 hAr hNm => ?_
    have hs := hR.1
    have hid : cA = G.2.1 := Option.some.inj (hNm.symm.trans (hc.K.2 0 _ rfl).2)
    subst hid
    refine W.widen (k := cells + 1) (n := slots + mx) (Nat.le_refl _) (by omega) (kk _ H1 (hR.new (c := ce_I n.toNatClampNeg (fun _ => 0)) (by omega) (fun q hq => o1 q (by omega)) ?_) heq)
    rw [hs]
    exact e1
  · cases heq
def nw_Z (mx : Nat) (n : Int32) (h : Hs_t) : Option Hs_t := if !decide (n < 0) && decide (n.toNatClampNeg ≤ mx) then some (hp_N h (ce_Z n.toNatClampNeg (fun _ => 0))) else none
theorem x_newZ {n : Int32} {mx : Nat} {rest : Hs_t → Rs_t} (hc : Cx_t p s m meth c s0 A0 l G y cc nL ret hh) (hR : Rp_h G s0.heap h H) (w1 : ex_W (.arrayClass (newarray.typeOf .boolean))) (hb : mx ≤ 1000) (hce : cells + 1 ≤ R.cells ∧ slots + mx ≤ R.slots) (heq : (nw_Z mx n h).bind rest = some r) (hdg : decode cc pc = .ok (.newarray .boolean, 2))
    (kk : ∀ (h1 : Hs_t) (H1 : Heap), Rp_h G s0.heap h1 H1 → rest h1 = some r → W p l e R s m args below meth c H1 locs (cells + 1) (slots + mx) Q (F0 m (pc + 2) ls (.ref h.1 :: st))) : W p l e R s m args below meth c H locs cells slots Q (F0 m pc ls (.int n :: st)) := by
  unfold nw_Z at heq
  split at heq
  · rename_i hi
    simp only [Bool.and_eq_true, Bool.not_eq_true', decide_eq_false_iff_not, decide_eq_true_eq] at hi
    obtain ⟨hn, hm⟩ := hi
    refine va_newaK hc.x hc.b (hc.w w1) rfl hdg rfl hn rfl (by show n.toNatClampNeg * 1 ≤ _; omega) hce.1 (by omega) hR.1 fun H1 cA e1 z1 o1 hAr hNm => ?_
    have hs := hR.1
    have hid : cA = G.2.2.1 := Option.some.inj (hNm.symm.trans (hc.K.2 1 _ rfl).2)
    subst hid
    refine W.widen (k := cells + 1) (n := slots + mx) (Nat.le_refl _) (by omega) (kk _ H1 (hR.new (c := ce_Z n.toNatClampNeg (fun _ => 0)) (by omega) (fun q hq => o1 q (by omega)) ?_) heq)
    rw [hs]
    exact e1
  · cases heq
def nw_L (mx : Nat) (n : Int32) (h : Hs_t) : Option Hs_t := if !decide (n < 0) && decide (n.toNatClampNeg ≤ mx) then some (hp_N h (ce_L n.toNatClampNeg (fun _ => 0))) else none
theorem x_newL {n : Int32} {mx : Nat} {rest : Hs_t → Rs_t} (hc : Cx_t p s m meth c s0 A0 l G y cc nL ret hh) (hR : Rp_h G s0.heap h H) (w1 : ex_W (.arrayClass (newarray.typeOf .long))) (hb : mx ≤ 1000) (hce : cells + 1 ≤ R.cells ∧ slots + mx ≤ R.slots) (heq : (nw_L mx n h).bind rest = some r) (hdg : decode cc pc = .ok (.newarray .long, 2))
    (kk : ∀ (h1 : Hs_t) (H1 : Heap), Rp_h G s0.heap h1 H1 → rest h1 = some r → W p l e R s m args below meth c H1 locs (cells + 1) (slots + mx) Q (F0 m (pc + 2) ls (.ref h.1 :: st))) : W p l e R s m args below meth c H locs cells slots Q (F0 m pc ls (.int n :: st)) := by
  unfold nw_L at heq
  split at heq
  · rename_i hi
    simp only [Bool.and_eq_true, Bool.not_eq_true', decide_eq_false_iff_not, decide_eq_true_eq] at hi
    obtain ⟨hn, hm⟩ := hi
    refine va_newaK hc.x hc.b (hc.w w1) rfl hdg rfl hn rfl (by show n.toNatClampNeg * 8 ≤ _; omega) hce.1 (by omega) hR.1 fun H1 cA e1 z1 o1 hAr hNm => ?_
    have hs := hR.1
    have hid : cA = G.2.2.2.1 := Option.some.inj (hNm.symm.trans (hc.K.2 2 _ rfl).2)
    subst hid
    refine W.widen (k := cells + 1) (n := slots + mx) (Nat.le_refl _) (by omega) (kk _ H1 (hR.new (c := ce_L n.toNatClampNeg (fun _ => 0)) (by omega) (fun q hq => o1 q (by omega)) ?_) heq)
    rw [hs]
    exact e1
  · cases heq
def nw_R (mx : Nat) (n : Int32) (h : Hs_t) : Option Hs_t := if !decide (n < 0) && decide (n.toNatClampNeg ≤ mx) then some (hp_N h (ce_R n.toNatClampNeg (fun _ => none))) else none
theorem x_newR {n : Int32} {mx index : Nat} {rest : Hs_t → Rs_t} (hc : Cx_t p s m meth c s0 A0 l G y cc nL ret hh) (hR : Rp_h G s0.heap h H) (w1 : ex_W (.classLink y.cls index ex_El)) (w2 : ex_W (.arrayOver (.object ex_El))) (hb : mx ≤ 1000) (hce : cells + 1 ≤ R.cells ∧ slots + mx ≤ R.slots) (heq : (nw_R mx n h).bind rest = some r) (hdg : decode cc pc = .ok (.anewarray index, 3))
    (kk : ∀ (h1 : Hs_t) (H1 : Heap), Rp_h G s0.heap h1 H1 → rest h1 = some r → W p l e R s m args below meth c H1 locs (cells + 1) (slots + mx) Q (F0 m (pc + 3) ls (.ref h.1 :: st))) : W p l e R s m args below meth c H locs cells slots Q (F0 m pc ls (.int n :: st)) := by
  unfold nw_R at heq
  split at heq
  · rename_i hi
    simp only [Bool.and_eq_true, Bool.not_eq_true', decide_eq_false_iff_not, decide_eq_true_eq] at hi
    obtain ⟨hn, hm⟩ := hi
    refine W.anew hc.x hc.b hc.o (hc.w w1) (hc.w w2) rfl hdg rfl hn (by omega) hce.1 (by omega) fun cA kA comp f1 f2 f3 f4 => ?_
    have hs := hR.1
    obtain ⟨kA', comp', k1, k2, k3, k4⟩ := (hc.K.2 3 _ rfl).2
    have hid : cA = G.2.2.2.2 := Option.some.inj (f1.symm.trans k4)
    subst hid
    have hk := kk _ (H.push ({ cls := G.2.2.2.2, slots := Array.replicate n.toNatClampNeg .null, vm := .none } : Cell)) (hR.new (c := ce_R n.toNatClampNeg (fun _ => none)) (by simp) (fun q hq => by rw [Array.getElem?_push, if_neg (Nat.ne_of_lt hq)]) (by
      show (H.push _)[H.size]? = some (vp_cell _ _)
      rw [Array.getElem?_push_size, arrV_new]
      rfl)) heq
    rw [← hs] at hk
    exact W.widen (k := cells + 1) (n := slots + mx) (Nat.le_refl _) (by omega) hk
  · cases heq
theorem x_castY {t index : Nat} {nm : String} {ts : List Nat} {rest : Rs_t} (hc : Cx_t p s m meth c s0 A0 l G y cc nL ret hh) (hR : Rp_h G s0.heap h H) (w1 : ex_W (.classLink y.cls index nm)) (hT : tg_Ok nm ts) (ht : tg_O h a = some t) (hts : t ∈ ts) (hdg : decode cc pc = .ok (.checkcast index, 3))
    (kk : W p l e R s m args below meth c H locs cells slots Q (F0 m (pc + 3) ls (.ref a :: st))) : W p l e R s m args below meth c H locs cells slots Q (F0 m pc ls (.ref a :: st)) := by
  obtain ⟨fs, hx⟩ := tg_O_spec ht
  obtain ⟨C, T, N, e1, e2⟩ := hT t hts
  exact va_castY hc.x hc.b hc.o (hc.w w1) (va_Nw.of rfl (hc.w (args := args) e2)) (hR.recv hc hx e1) hdg kk
/-! Calls. -/
theorem x_core {T : State} {rm : Room} {vs : List Value} {yy : MethodName} {w : Cond} {r0 : Outcome × Hs_t} {mk : MethodId} {methY : Method} {cY : Code} {kY : Class} {mx : Nat} (hM : M_X G s0 l yy w rm vs h r0) (X : Stand p l e R s m args below meth c T locs cells slots) {g : JFrame} (hg : g.method = m) (hsize : g.locals.size = c.maxLocals) {ig : Instr} {len : Nat} (hdg : decode c.code g.pc = .ok (ig, len))
    (hW : 2 * g.monitorRoom + (g.stack.map fun v => v.category).sum ≤ 8) (hn : T.methodNamed? yy = some mk) (hw : w.before vs.toArray T = true) (hmY : T.vm.method? mk = some methY) (hcY : methY.code = some cY) (hlY : cY.maxLocals ≤ mx) (hkY : T.vm.classes[mk.cls]? = some kY) (hini : kY.init = .initialized)
    (hR1 : rm.frames + 1 ≤ R.frames ∧ 8 + (mx + 11) + rm.locals ≤ R.locals) (hf : cells + rm.cells ≤ R.cells ∧ slots + rm.slots ≤ R.slots) (hs0 : s0.WarmedH T.vm) (hRep : Rp_h G s0.heap h T.heap) :
    ∃ (T' : State) (L : List Loc), Stand p l e R s m args below meth c T' (locs ++ L) (cells + rm.cells) (slots + rm.slots) ∧ (∀ q ∈ L, s0.heap.size ≤ q.base) ∧ Rp_h G s0.heap r0.2 T'.heap ∧
      (∀ v, r0.1 = .returned v → Steps p.tables e below (doInvoke e (T.setTop g) [] mk vs.toArray).1 (T'.setTop { g with pc := g.pc + len, stack := v.toList ++ g.stack })) ∧
      (∀ x, r0.1 = .threw x → Steps p.tables e below (doInvoke e (T.setTop g) [] mk vs.toArray).1 ((T'.setTop g).pushFrame (.throwing x))) := by
  have hAt : At T g.method c below := by rw [hg]; exact X.here
  have happ : (headSpec [w] rm).appliesLoose yy e.platform (T.calling g mk vs.toArray) = true :=
    Spec.appliesLoose_calling (g := g) hAt hdg hn hkY hini
      (X.room_calling (g := g) (R' := rm) hsize hmY hcY hR1.1 (by omega) hf.1 hf.2) (atoms_intro fun c hc => by rw [List.mem_singleton.mp hc]; exact hw)
  have hfr : (T.setTop g).frames = [.java g] ++ below := by rw [State.frames_setTop' g hAt.top, X.tail]; rfl
  obtain ⟨o, s₂, hsteps, -, hend, ⟨ho, hRep2⟩, L, hE, hLb⟩ := Steps.callFree hM p X.admits X.cas X.clock (acts := []) hfr happ ⟨rfl, hs0, hRep⟩ trivial
  rw [hfr] at hend
  cases hr0 : r0.1 with
  | returned v =>
    rw [hr0] at ho
    subst ho
    obtain ⟨T', X', -, -, ht⟩ := X.outOf hg hdg hend hE.1 hE.2
    refine ⟨T', L, X', hLb, ?_, fun v' hv => ?_, (fun x hx => by cases hx)⟩
    · rw [ht] at hRep2
      have hh : (T'.setTop { g with pc := g.pc + len, stack := v.toList ++ g.stack }).heap = T'.heap := by simp [State.setTop, State.modifyTopJava]
      rw [hh] at hRep2
      exact hRep2
    · cases hv
      rw [ht] at hsteps
      exact hsteps
  | threw x =>
    rw [hr0] at ho
    subst ho
    obtain ⟨T', X', -, -, ht⟩ := X.outOfThrown hg hend hE.1 hE.2
    refine ⟨T', L, X', hLb, ?_, (fun v' hv => by cases hv), fun x' hx => ?_⟩
    · rw [ht, Stand.throwing_heap] at hRep2
      exact hRep2
    · cases hx
      rw [ht] at hsteps
      exact hsteps
/-- a call, made at the frame g, that leaves 'st' below its arguments: it comes back, or throws, as r0 says -/
def x_Run (G : Gx_t) (s0 : State) (p : Program) (l : Launch) (e : Env) (R : Room) (s : State) (m : MethodId) (args : Array Value) (below : List Frame) (meth : Method) (c : Code) (H : Heap) (locs : List Loc) (cells slots mc ms : Nat) (g : JFrame) (st : List Value) (r0 : Outcome × Hs_t) : Prop :=
  ∀ T : State, T.heap = H → Stand p l e R s m args below meth c T locs cells slots → ∃ (T' : State) (L : List Loc), Stand p l e R s m args below meth c T' (locs ++ L) (cells + mc) (slots + ms) ∧ (∀ q ∈ L, s0.heap.size ≤ q.base) ∧ Rp_h G s0.heap r0.2 T'.heap ∧
    (∀ v, r0.1 = .returned v → ∀ target, Steps p.tables e below (T'.setTop { g with pc := g.pc + 3, stack := v.toList ++ st }) target → Steps p.tables e below (T.setTop g) target) ∧
    (∀ x, r0.1 = .threw x → ∀ target, Steps p.tables e below ((T'.setTop { g with stack := st }).pushFrame (.throwing x)) target → Steps p.tables e below (T.setTop g) target)
theorem lo_app {L : List Loc} (hL : Lo_k s0 locs) (h2 : ∀ q ∈ L, s0.heap.size ≤ q.base) : Lo_k s0 (locs ++ L) := by
  intro q hq
  rcases List.mem_append.mp hq with h | h
  · exact hL q h
  · exact h2 q h
/-- the call threw, and nothing here catches -/
theorem x_out {mc ms : Nat} {st0 : List Value} {x : Nat} {h1 : Hs_t} (hc : Cx_t p s m meth c s0 A0 l G y cc nL ret []) (hL : Lo_k s0 locs) (hf : cells + mc ≤ R.cells ∧ slots + ms ≤ R.slots) (hr : x_Run G s0 p l e R s m args below meth c H locs cells slots mc ms (F0 m pc ls st0) st (.threw x, h1)) (heq : re_T x h1 = some r) :
    W p l e R s m args below meth c H locs cells slots (xq_MQ G s0 below r s R.cells R.slots) (F0 m pc ls st0) := by
  cases heq
  intro T hT X
  obtain ⟨T', L, X', hLb, hRep, -, hth⟩ := hr T hT X
  have hlocks := hc.k
  obtain ⟨q1, q2, q3, q4, q5⟩ := X'.leaveThrown x (g := F0 m pc ls st) rfl rfl rfl (hc.off pc) (hlocks := hlocks)
  exact ⟨_, hth x rfl _ q1, _, q2, q3, ⟨rfl, hRep⟩, _, ⟨q4, q5.mono hf.1 hf.2⟩, lo_app hL hLb⟩
theorem x_bI {mc ms : Nat} {st0 : List Value} {F : Rs_t} {rest : Int32 → Hs_t → Rs_t} (hc : Cx_t p s m meth c s0 A0 l G y cc nL ret []) (hL : Lo_k s0 locs) (heq : bd_I F rest = some r) (hf : cells + mc ≤ R.cells ∧ slots + ms ≤ R.slots) (hr : ∀ r0, F = some r0 → x_Run G s0 p l e R s m args below meth c H locs cells slots mc ms (F0 m pc ls st0) st r0)
    (kk : ∀ (v : Int32) (h1 : Hs_t) (H1 : Heap) (locs1 : List Loc), Rp_h G s0.heap h1 H1 → Lo_k s0 locs1 → rest v h1 = some r → W p l e R s m args below meth c H1 locs1 (cells + mc) (slots + ms) (xq_MQ G s0 below r s R.cells R.slots) (F0 m (pc + 3) ls (.int v :: st))) : W p l e R s m args below meth c H locs cells slots (xq_MQ G s0 below r s R.cells R.slots) (F0 m pc ls st0) := by
  unfold bd_I at heq
  split at heq
  · rename_i _ v h1
    intro T hT X
    obtain ⟨T', L, X', hLb, hRep, hrt, -⟩ := hr _ rfl T hT X
    obtain ⟨t, a1, b1⟩ := kk v h1 T'.heap _ hRep (lo_app hL hLb) heq T' rfl X'
    exact ⟨t, hrt _ rfl t a1, b1⟩
  · rename_i _ x h1
    exact x_out hc hL hf (hr _ rfl) heq
  · cases heq
theorem x_bL {mc ms : Nat} {st0 : List Value} {F : Rs_t} {rest : Int64 → Hs_t → Rs_t} (hc : Cx_t p s m meth c s0 A0 l G y cc nL ret []) (hL : Lo_k s0 locs) (heq : bd_L F rest = some r) (hf : cells + mc ≤ R.cells ∧ slots + ms ≤ R.slots) (hr : ∀ r0, F = some r0 → x_Run G s0 p l e R s m args below meth c H locs cells slots mc ms (F0 m pc ls st0) st r0)
    (kk : ∀ (v : Int64) (h1 : Hs_t) (H1 : Heap) (locs1 : List Loc), Rp_h G s0.heap h1 H1 → Lo_k s0 locs1 → rest v h1 = some r → W p l e R s m args below meth c H1 locs1 (cells + mc) (slots + ms) (xq_MQ G s0 below r s R.cells R.slots) (F0 m (pc + 3) ls (.long v :: st))) : W p l e R s m args below meth c H locs cells slots (xq_MQ G s0 below r s R.cells R.slots) (F0 m pc ls st0) := by
  unfold bd_L at heq
  split at heq
  · rename_i _ v h1
    intro T hT X
    obtain ⟨T', L, X', hLb, hRep, hrt, -⟩ := hr _ rfl T hT X
    obtain ⟨t, a1, b1⟩ := kk v h1 T'.heap _ hRep (lo_app hL hLb) heq T' rfl X'
    exact ⟨t, hrt _ rfl t a1, b1⟩
  · rename_i _ x h1
    exact x_out hc hL hf (hr _ rfl) heq
  · cases heq
theorem x_bA {mc ms : Nat} {st0 : List Value} {F : Rs_t} {rest : Nat → Hs_t → Rs_t} (hc : Cx_t p s m meth c s0 A0 l G y cc nL ret []) (hL : Lo_k s0 locs) (heq : bd_A F rest = some r) (hf : cells + mc ≤ R.cells ∧ slots + ms ≤ R.slots) (hr : ∀ r0, F = some r0 → x_Run G s0 p l e R s m args below meth c H locs cells slots mc ms (F0 m pc ls st0) st r0)
    (kk : ∀ (v : Nat) (h1 : Hs_t) (H1 : Heap) (locs1 : List Loc), Rp_h G s0.heap h1 H1 → Lo_k s0 locs1 → rest v h1 = some r → W p l e R s m args below meth c H1 locs1 (cells + mc) (slots + ms) (xq_MQ G s0 below r s R.cells R.slots) (F0 m (pc + 3) ls (.ref v :: st))) : W p l e R s m args below meth c H locs cells slots (xq_MQ G s0 below r s R.cells R.slots) (F0 m pc ls st0) := by
  unfold bd_A at heq
  split at heq
  · rename_i _ v h1
    intro T hT X
    obtain ⟨T', L, X', hLb, hRep, hrt, -⟩ := hr _ rfl T hT X
    obtain ⟨t, a1, b1⟩ := kk v h1 T'.heap _ hRep (lo_app hL hLb) heq T' rfl X'
    exact ⟨t, hrt _ rfl t a1, b1⟩
  · rename_i _ x h1
    exact x_out hc hL hf (hr _ rfl) heq
  · cases heq
theorem x_bV {mc ms : Nat} {st0 : List Value} {F : Rs_t} {rest : Hs_t → Rs_t} (hc : Cx_t p s m meth c s0 A0 l G y cc nL ret []) (hL : Lo_k s0 locs) (heq : bd_V F rest = some r) (hf : cells + mc ≤ R.cells ∧ slots + ms ≤ R.slots) (hr : ∀ r0, F = some r0 → x_Run G s0 p l e R s m args below meth c H locs cells slots mc ms (F0 m pc ls st0) st r0)
    (kk : ∀ (h1 : Hs_t) (H1 : Heap) (locs1 : List Loc), Rp_h G s0.heap h1 H1 → Lo_k s0 locs1 → rest h1 = some r → W p l e R s m args below meth c H1 locs1 (cells + mc) (slots + ms) (xq_MQ G s0 below r s R.cells R.slots) (F0 m (pc + 3) ls st)) : W p l e R s m args below meth c H locs cells slots (xq_MQ G s0 below r s R.cells R.slots) (F0 m pc ls st0) := by
  unfold bd_V at heq
  split at heq
  · rename_i _ h1
    intro T hT X
    obtain ⟨T', L, X', hLb, hRep, hrt, -⟩ := hr _ rfl T hT X
    obtain ⟨t, a1, b1⟩ := kk h1 T'.heap _ hRep (lo_app hL hLb) heq T' rfl X'
    exact ⟨t, hrt _ rfl t a1, b1⟩
  · rename_i _ x h1
    exact x_out hc hL hf (hr _ rfl) heq
  · cases heq
/-- what the tables say of a method that is called: its code word w, how many locals -/
def md_Ok (yy : MethodName) (w : Cond) (mx : Nat) : Prop := ex_W w ∧ ex_W (.initialized yy.cls) ∧ (yy.cls ≠ "java/lang/invoke/MethodHandle" ∧ yy.cls ≠ "java/lang/invoke/VarHandle") ∧ ((∃ b rt, w = .code yy b mx rt) ∨ ∃ b rt hh, w = .codeWith yy b mx rt hh)
theorem md_Ok.spec {U : State} {yy : MethodName} {w : Cond} {mx : Nat} (hd : md_Ok yy w mx) (hW : s0.WarmedH U.vm) (hG : G_0 l s0 A0 G) : ∃ (mk : MethodId) (methY : Method) (cY : Code) (kY : Class), U.methodNamed? yy = some mk ∧ U.vm.method? mk = some methY ∧ methY.code = some cY ∧ cY.maxLocals = mx ∧ parseMethodDescriptor yy.desc = some methY.sig ∧ U.vm.classes[mk.cls]? = some kY ∧ kY.init = .initialized := by
  obtain ⟨w1, w2, -, hk⟩ := hd
  have h1 : w.before #[] U = true := ex_warm hW w1.2 (hG.1 _ w1.1)
  have h2 : (Cond.initialized yy.cls).before #[] U = true := ex_warm hW w2.2 (hG.1 _ w2.1)
  rcases hk with ⟨b, rt, rfl⟩ | ⟨b, rt, hh, rfl⟩
  · obtain ⟨mk, hnamed⟩ := Cond.code_named h1
    obtain ⟨methM, cM, g1, g2, -, g4, -, -, -, g8⟩ := Cond.code_spec hnamed h1
    obtain ⟨kP, hkP, -⟩ := className_of_methodNamed hnamed
    exact ⟨mk, methM, cM, kP, hnamed, g1, g2, g4, g8, hkP, Cond.initialized_spec (findClass_of_methodNamed hnamed) hkP h2⟩
  · obtain ⟨mk, methM, cM, hnamed, g1, g2, -, g4, -, -, -, g8⟩ := Cond.codeWith_spec h1
    obtain ⟨kP, hkP, -⟩ := className_of_methodNamed hnamed
    exact ⟨mk, methM, cM, kP, hnamed, g1, g2, g4, g8, hkP, Cond.initialized_spec (findClass_of_methodNamed hnamed) hkP h2⟩
/-- from the state behind the linking of a call to the call's end -/
theorem x_inv {T : State} {vm₁ : Vm} {rm : Room} {vs : List Value} {yy : MethodName} {w : Cond} {r0 : Outcome × Hs_t} {mk : MethodId} {mx : Nat} (hc : Cx_t p s m meth c s0 A0 l G y cc nL ret hh) (hM : M_X G s0 l yy w rm vs h r0) (hd : md_Ok yy w mx) (hR : Rp_h G s0.heap h H) (hT : T.heap = H) (X₁ : Stand p l e R s m args below meth c (T.setVm vm₁) locs cells slots) {g : JFrame} (hg : g.method = m) (hsize : g.locals.size = nL) {ig : Instr} (hdg : decode cc g.pc = .ok (ig, 3))
    (hW : 2 * g.monitorRoom + (st.map fun v => v.category).sum ≤ 8) (hn : s.methodNamed? yy = some mk) (hR1 : rm.frames + 1 ≤ R.frames ∧ 8 + (mx + 11) + rm.locals ≤ R.locals) (hf : cells + rm.cells ≤ R.cells ∧ slots + rm.slots ≤ R.slots)
    (hst : ∀ target, (∀ acts, Steps p.tables e below (doInvoke e ((T.setVm vm₁).setTop { g with stack := st }) acts mk vs.toArray).1 target) → Steps p.tables e below (T.setTop g) target) :
    ∃ (T' : State) (L : List Loc), Stand p l e R s m args below meth c T' (locs ++ L) (cells + rm.cells) (slots + rm.slots) ∧ (∀ q ∈ L, s0.heap.size ≤ q.base) ∧ Rp_h G s0.heap r0.2 T'.heap ∧
    (∀ v, r0.1 = .returned v → ∀ target, Steps p.tables e below (T'.setTop { g with pc := g.pc + 3, stack := v.toList ++ st }) target → Steps p.tables e below (T.setTop g) target) ∧
    (∀ x, r0.1 = .threw x → ∀ target, Steps p.tables e below ((T'.setTop { g with stack := st }).pushFrame (.throwing x)) target → Steps p.tables e below (T.setTop g) target) := by
  have hs0 : s0.WarmedH (T.setVm vm₁).vm := State.WarmedH.trans hc.w0 X₁.warmed
  obtain ⟨mk', methY, cY, kY, g1, g2, g3, g4, -, g6, g7⟩ := hd.spec hs0 hc.g
  cases (X₁.named hn).symm.trans g1
  obtain ⟨T', L, X', hLb, hRep, k1, k2⟩ := x_core (g := { g with stack := st }) hM X₁ hg (hsize.trans hc.ml.symm) (by rw [hc.b]; exact hdg) hW g1 (ex_warm hs0 hd.1.2 (hc.g.1 _ hd.1.1)) g2 g3 (Nat.le_of_eq g4) g6 g7 hR1 hf hs0 (by show Rp_h G s0.heap h T.heap; rw [hT]; exact hR)
  exact ⟨T', L, X', hLb, hRep, fun v hv target ht => hst target fun acts => by rw [doInvoke_state]; exact (k1 v hv).trans ht, fun x hx target ht => hst target fun acts => by rw [doInvoke_state]; exact (k2 x hx).trans ht⟩
theorem x_runS {rm : Room} {vs st0 : List Value} {yy : MethodName} {w : Cond} {r0 : Outcome × Hs_t} {mx index : Nat} (hc : Cx_t p s m meth c s0 A0 l G y cc nL ret hh) (hM : M_X G s0 l yy w rm vs h r0) (hd : md_Ok yy w mx) (hR : Rp_h G s0.heap h H) (w1 : ex_W (.methodLink y.cls index yy)) (w2 : ex_W (.static yy)) (hml : ls.size = nL)
    (hlen : (parseMethodDescriptor yy.desc).map (fun d => d.parameters.length) = some vs.length) (hstack : st0 = vs.reverse ++ st) (hW : (st.map fun v => v.category).sum ≤ 8) (hdg : decode cc pc = .ok (.invokestatic index, 3)) (hR1 : rm.frames + 1 ≤ R.frames ∧ 8 + (mx + 11) + rm.locals ≤ R.locals) (hf : cells + rm.cells ≤ R.cells ∧ slots + rm.slots ≤ R.slots) :
    x_Run G s0 p l e R s m args below meth c H locs cells slots rm.cells rm.slots (F0 m pc ls st0) st r0 := by
  intro T hT X
  obtain ⟨mk, methY, cY, kY, g1, g2, g3, g4, g5, g6, g7⟩ := hd.spec hc.w0 hc.g
  have hstatic : methY.isStatic = true := Cond.static_spec g1 g2 (hc.w (args := #[]) w2)
  rw [g5] at hlen
  obtain ⟨vm₁, X₁, hstep₁⟩ := X.invokestatic hc.x hc.o (hc.w w1) g1 g2 hstatic g6 g7 hd.2.2.1 (g := F0 m pc ls st0) rfl (argsL := vs) (rest := st) (Option.some.inj hlen).symm hstack (by rw [hc.b]; exact hdg)
  exact x_inv hc hM hd hR hT X₁ rfl hml hdg (by show 2 * 0 + _ ≤ _; omega) g1 hR1 hf hstep₁
theorem x_runI {rm : Room} {vs st0 : List Value} {yy : MethodName} {w : Cond} {r0 : Outcome × Hs_t} {mx index : Nat} (hc : Cx_t p s m meth c s0 A0 l G y cc nL ret hh) (hM : M_X G s0 l yy w rm (.ref a :: vs) h r0) (hd : md_Ok yy w mx) (hR : Rp_h G s0.heap h H) (w1 : ex_W (.methodLink y.cls index yy)) (w2 : ex_W (.instanceMethod yy)) (hy1 : yy.name = "<init>") (hw : ∃ b, w = .code yy b mx none) (hml : ls.size = nL)
    (hlen : (parseMethodDescriptor yy.desc).map (fun d => d.parameters.length) = some vs.length) (hstack : st0 = vs.reverse ++ .ref a :: st) (hW : (st.map fun v => v.category).sum ≤ 8) (hdg : decode cc pc = .ok (.invokespecial index, 3)) (hR1 : rm.frames + 1 ≤ R.frames ∧ 8 + (mx + 11) + rm.locals ≤ R.locals) (hf : cells + rm.cells ≤ R.cells ∧ slots + rm.slots ≤ R.slots) :
    x_Run G s0 p l e R s m args below meth c H locs cells slots rm.cells rm.slots (F0 m pc ls st0) st r0 := by
  obtain ⟨b, rfl⟩ := hw
  intro T hT X
  obtain ⟨mk, methY, cY, kY, g1, g2, g3, g4, g5, g6, g7⟩ := hd.spec hc.w0 hc.g
  rw [g5] at hlen
  have hpl : e.platform.magicAccessors = ({} : Platform).magicAccessors := by rw [X.admits.platform]
  obtain ⟨mk', methM, cM, kP, vm₁, hnamed, hmethM, hcodeM, -, hlocalsM, -, hkP, -, hW₁, hstep₁⟩ := Steps.initColdArgs (e := e) X.here hc.x X.warmed hpl hc.o hy1 hd.2.2.1 (hc.w (args := args) w1) (hc.w (args := args) w2) (hc.w (args := args) hd.1) (f := F0 m pc ls st0) rfl (fun sig hs => by rw [g5] at hs; cases hs; exact (Option.some.inj hlen).symm) hstack (by rw [hc.b]; exact hdg)
  cases g1.symm.trans hnamed
  exact x_inv hc hM hd hR hT (X.noted hW₁) rfl hml hdg (by show 2 * 0 + _ ≤ _; omega) g1 hR1 hf hstep₁
theorem x_runIN {host : String} {rm : Room} {vs st0 : List Value} {yy : MethodName} {w : Cond} {r0 : Outcome × Hs_t} {mx index : Nat} (hc : Cx_t p s m meth c s0 A0 l G y cc nL ret hh) (hM : M_X G s0 l yy w rm (.ref a :: vs) h r0) (hd : md_Ok yy w mx) (hR : Rp_h G s0.heap h H) (w1 : ex_W (.methodLinkNest y.cls index yy host)) (w2 : ex_W (.instanceMethod yy)) (hy1 : yy.name = "<init>") (hw : ∃ b, w = .code yy b mx none) (hml : ls.size = nL)
    (hlen : (parseMethodDescriptor yy.desc).map (fun d => d.parameters.length) = some vs.length) (hstack : st0 = vs.reverse ++ .ref a :: st) (hW : (st.map fun v => v.category).sum ≤ 8) (hdg : decode cc pc = .ok (.invokespecial index, 3)) (hR1 : rm.frames + 1 ≤ R.frames ∧ 8 + (mx + 11) + rm.locals ≤ R.locals) (hf : cells + rm.cells ≤ R.cells ∧ slots + rm.slots ≤ R.slots) :
    x_Run G s0 p l e R s m args below meth c H locs cells slots rm.cells rm.slots (F0 m pc ls st0) st r0 := by
  obtain ⟨b, rfl⟩ := hw
  intro T hT X
  obtain ⟨mk, methY, cY, kY, g1, g2, g3, g4, g5, g6, g7⟩ := hd.spec hc.w0 hc.g
  rw [g5] at hlen
  have hpl : e.platform.magicAccessors = ({} : Platform).magicAccessors := by rw [X.admits.platform]
  obtain ⟨mk', methM, cM, kP, vm₁, hnamed, hmethM, hcodeM, -, hlocalsM, -, hkP, -, hW₁, hstep₁⟩ := Steps.initColdArgsNest (e := e) X.here hc.x X.warmed hpl hc.o hy1 hd.2.2.1 (hc.w (args := args) w1) (hc.w (args := args) w2) (hc.w (args := args) hd.1) (f := F0 m pc ls st0) rfl (fun sig hs => by rw [g5] at hs; cases hs; exact (Option.some.inj hlen).symm) hstack (by rw [hc.b]; exact hdg)
  cases g1.symm.trans hnamed
  exact x_inv hc hM hd hR hT (X.noted hW₁) rfl hml hdg (by show 2 * 0 + _ ≤ _; omega) g1 hR1 hf hstep₁
/-- a virtual call: the class C of the receiver, the method x that is named, the method yy that is selected -/
theorem x_runV {rm : Room} {vs st0 : List Value} {yy : MethodName} {w : Cond} {r0 : Outcome × Hs_t} {mx index t N : Nat} {fs : List Value} {C : String} {TT : u_T} (hc : Cx_t p s m meth c s0 A0 l G y cc nL ret hh) (hM : M_X G s0 l yy w rm (.ref a :: vs) h r0) (hd : md_Ok yy w mx) (hR : Rp_h G s0.heap h H) (ha : h.2 a = some (.inl (t, fs))) (e1 : cl_L[t]? = some (C, TT, N)) (w1 : ex_W (.methodLink y.cls index yy)) (w2 : ex_W (.instanceMethod yy)) (w3 : ex_W (.selects C yy yy)) (hml : ls.size = nL)
    (hlen : (parseMethodDescriptor yy.desc).map (fun d => d.parameters.length) = some vs.length) (hstack : st0 = vs.reverse ++ .ref a :: st) (hW : (st.map fun v => v.category).sum ≤ 8) (hdg : decode cc pc = .ok (.invokevirtual index, 3)) (hR1 : rm.frames + 1 ≤ R.frames ∧ 8 + (mx + 11) + rm.locals ≤ R.locals) (hf : cells + rm.cells ≤ R.cells ∧ slots + rm.slots ≤ R.slots) :
    x_Run G s0 p l e R s m args below meth c H locs cells slots rm.cells rm.slots (F0 m pc ls st0) st r0 := by
  intro T hT X
  obtain ⟨mk, methY, cY, kY, g1, g2, g3, g4, g5, g6, g7⟩ := hd.spec hc.w0 hc.g
  rw [g5] at hlen
  obtain ⟨cellB, hcB, hoB, hclB⟩ := hR.recv hc ha e1
  obtain ⟨mk', methM, hnamed, hmethM, hstM, habM⟩ := Cond.instanceMethod_spec (hc.w (args := #[]) w2)
  cases g1.symm.trans hnamed
  cases g2.symm.trans hmethM
  obtain ⟨c2, r2, m2, q1, q2, q3, q4, kP, hkP, hkPi⟩ := Cond.selects_spec (hc.w (args := #[]) w3)
  cases hclB.symm.trans q1
  cases (State.methodFound?_of_named hnamed hd.2.2.1).symm.trans q2
  cases hnamed.symm.trans q3
  have hselP : selectMethod e.platform s.vm cellB.cls mk = .method mk := by rw [Launch.admits_selectMethod X.admits]; exact q4
  obtain ⟨vm₁, X₁, hstep₁⟩ := X.invokevirtual hc.x hc.o (hc.w w1) hnamed hmethM hstM hkP hkPi hd.2.2.1 (a := a) (cell := cellB) (by rw [hT]; exact hcB)
    (fun z h => by rw [h] at hoB; cases hoB) hselP hmethM habM hkP hkPi (g := F0 m pc ls st0) rfl (argsL := vs) (rest := st) (Option.some.inj hlen).symm hstack (by rw [hc.b]; exact hdg)
  exact x_inv hc hM hd hR hT X₁ rfl hml hdg (by show 2 * 0 + _ ≤ _; omega) g1 hR1 hf hstep₁
/-- the method that is named: abstract, or with a body -/
def dc_W (z : MethodName) : Prop := ex_W (.declares z) ∨ ∃ b mx rt, ex_W (.instanceMethod z) ∧ ex_W (.code z b mx rt)
theorem dc_W.spec {z : MethodName} (hd : dc_W z) (hc : Cx_t p s m meth c s0 A0 l G y cc nL ret hh) : va_Decl s z := by
  rcases hd with h | ⟨b, mx, rt, h1, h2⟩
  · exact va_Decl.abs (hc.w h)
  · exact va_Decl.of (hc.w (args := #[]) h1) (hc.w (args := #[]) h2)
/-- ... of a method that a class above declares -/
def vt_Ok (x : MethodName) (C : String) (yy : MethodName) (w : Cond) (mx : Nat) : Prop := md_Ok yy w mx ∧ ex_W (.instanceMethod yy) ∧ ex_W (.selects C x yy)
theorem x_runU {rm : Room} {vs st0 : List Value} {x yy : MethodName} {w : Cond} {r0 : Outcome × Hs_t} {mx index t N : Nat} {fs : List Value} {C owner : String} {TT : u_T} (hc : Cx_t p s m meth c s0 A0 l G y cc nL ret hh) (hM : M_X G s0 l yy w rm (.ref a :: vs) h r0) (hv : vt_Ok x C yy w mx) (hR : Rp_h G s0.heap h H) (ha : h.2 a = some (.inl (t, fs))) (e1 : cl_L[t]? = some (C, TT, N)) (w1 : ex_W (.methodLink y.cls index x)) (w2 : ex_W (.sameMethod x.cls owner x.name x.desc)) (w3 : dc_W ⟨owner, x.name, x.desc⟩) (howner : owner ≠ "java/lang/invoke/MethodHandle" ∧ owner ≠ "java/lang/invoke/VarHandle") (hml : ls.size = nL)
    (hlen : (parseMethodDescriptor x.desc).map (fun d => d.parameters.length) = some vs.length) (hstack : st0 = vs.reverse ++ .ref a :: st) (hW : (st.map fun v => v.category).sum ≤ 8) (hdg : decode cc pc = .ok (.invokevirtual index, 3)) (hR1 : rm.frames + 1 ≤ R.frames ∧ 8 + (mx + 11) + rm.locals ≤ R.locals) (hf : cells + rm.cells ≤ R.cells ∧ slots + rm.slots ≤ R.slots) :
    x_Run G s0 p l e R s m args below meth c H locs cells slots rm.cells rm.slots (F0 m pc ls st0) st r0 := by
  intro T hT X
  obtain ⟨hd, hi, hs⟩ := hv
  obtain ⟨mk, methY, cY, kY, g1, g2, g3, g4, g5, g6, g7⟩ := hd.spec hc.w0 hc.g
  obtain ⟨cellB, hcB, hoB, hclB⟩ := hR.recv hc ha e1
  obtain ⟨r0', rr, hn, hrm, hstR, hsigR⟩ := w3.spec hc
  have hsigR' : parseMethodDescriptor x.desc = some rr.sig := hsigR
  rw [hsigR'] at hlen
  obtain ⟨cn, ck, r1, hcn, hck, hni, hfd, hn1⟩ := Cond.sameMethod_found (hc.w (args := args) w2)
  cases hn.symm.trans hn1
  obtain ⟨mk', methM, hnamed, hmethM, -, habM⟩ := Cond.instanceMethod_spec (hc.w (args := #[]) hi)
  cases g1.symm.trans hnamed
  obtain ⟨c2, r2, m2, q1, q2, q3, q4, kP, hkP, hkPi⟩ := Cond.selects_spec (hc.w (args := #[]) hs)
  cases hclB.symm.trans q1
  cases hfd.symm.trans q2
  cases hnamed.symm.trans q3
  have hselP : selectMethod e.platform s.vm cellB.cls r0' = .method mk := by rw [Launch.admits_selectMethod X.admits]; exact q4
  obtain ⟨vm₁, X₁, hstep₁⟩ := X.invokevirtualUp hc.x hc.o (hc.w w1) (hc.w w2) howner hn hrm hstR (a := a) (cell := cellB) (by rw [hT]; exact hcB)
    (fun z h => by rw [h] at hoB; cases hoB) hselP hmethM habM hkP hkPi (g := F0 m pc ls st0) rfl (argsL := vs) (rest := st) (Option.some.inj hlen).symm hstack (by rw [hc.b]; exact hdg)
  exact x_inv hc hM hd hR hT X₁ rfl hml hdg (by show 2 * 0 + _ ≤ _; omega) g1 hR1 hf hstep₁
def ck_T (ts : List Nat) (h : Hs_t) (a : Nat) : Option Nat := match tg_O h a with
  | some t => if ts.contains t then some t else none
  | none => none
theorem x_ck {ts : List Nat} {rest : Nat → Rs_t} {g : JFrame} (heq : (ck_T ts h a).bind rest = some r) (kk : ∀ (t : Nat) (fs : List Value), h.2 a = some (.inl (t, fs)) → t ∈ ts → rest t = some r → W p l e R s m args below meth c H locs cells slots Q g) : W p l e R s m args below meth c H locs cells slots Q g := by
  unfold ck_T at heq
  split at heq
  · rename_i t ht
    split at heq
    · rename_i hz
      obtain ⟨fs, hx⟩ := tg_O_spec ht
      exact kk t fs hx (by simpa using hz) heq
    · cases heq
  · cases heq
theorem x_cast {t index : Nat} {fs : List Value} {nm : String} {ts : List Nat} (hc : Cx_t p s m meth c s0 A0 l G y cc nL ret hh) (hR : Rp_h G s0.heap h H) (w1 : ex_W (.classLink y.cls index nm)) (hT : tg_Ok nm ts) (hx : h.2 a = some (.inl (t, fs))) (hts : t ∈ ts) (hdg : decode cc pc = .ok (.checkcast index, 3))
    (kk : W p l e R s m args below meth c H locs cells slots Q (F0 m (pc + 3) ls (.ref a :: st))) : W p l e R s m args below meth c H locs cells slots Q (F0 m pc ls (.ref a :: st)) := by
  obtain ⟨C, T, N, e1, e2⟩ := hT t hts
  exact va_castY hc.x hc.b hc.o (hc.w w1) (va_Nw.of rfl (hc.w (args := args) e2)) (hR.recv hc hx e1) hdg kk
def is_T (yes no : List Nat) (h : Hs_t) (a : Nat) : Option Int32 := match tg_O h a with
  | some t => if yes.contains t then some 1 else if no.contains t then some 0 else none
  | none => none
theorem x_inst {index : Nat} {nm : String} {yes no : List Nat} {rest : Int32 → Rs_t} (hc : Cx_t p s m meth c s0 A0 l G y cc nL ret hh) (hR : Rp_h G s0.heap h H) (w1 : ex_W (.classLink y.cls index nm)) (hY : tg_Ok nm yes) (hN : ∀ t ∈ no, ∃ (C : String) (T : u_T) (N : Nat), cl_L[t]? = some (C, T, N) ∧ va_Nc C nm s) (heq : (is_T yes no h a).bind rest = some r) (hdg : decode cc pc = .ok (.instanceof index, 3))
    (kk : ∀ v : Int32, rest v = some r → W p l e R s m args below meth c H locs cells slots Q (F0 m (pc + 3) ls (.int v :: st))) : W p l e R s m args below meth c H locs cells slots Q (F0 m pc ls (.ref a :: st)) := by
  unfold is_T at heq
  split at heq
  · rename_i t ht
    obtain ⟨fs, hx⟩ := tg_O_spec ht
    split at heq
    · rename_i hz
      obtain ⟨C, T, N, e1, e2⟩ := hY t (by simpa using hz)
      exact va_instY hc.x hc.b hc.o (hc.w w1) (va_Nw.of rfl (hc.w (args := args) e2)) (hR.recv hc hx e1) hdg (kk 1 heq)
    · split at heq
      · rename_i hz
        obtain ⟨C, T, N, e1, e2⟩ := hN t (by simpa using hz)
        exact va_instNo hc.x hc.b hc.o (hc.w w1) e2 (hR.recv hc hx e1) hdg (kk 0 heq)
      · cases heq
  · cases heq
theorem x_lcmp {x z : Int64} (hexec : p.tables.exec = Jvm.exec) (hb : c.code = cc) (hdg : decode cc pc = .ok (.lcmp, 1))
    (k : W p l e R s m args below meth c H locs cells slots Q (F0 m (pc + 1) ls (.int (lg_cmp x z) :: st))) : W p l e R s m args below meth c H locs cells slots Q (F0 m pc ls (.long z :: .long x :: st)) := W.lcmp hexec hb hdg k
/-- a call by the receiver's class: the method named is x -/
def V_X (G : Gx_t) (s0 : State) (l : Launch) (x : MethodName) (rm : Room) (a : Nat) (vs : List Value) (h : Hs_t) (r0 : Outcome × Hs_t) : Prop :=
  ∃ (t N : Nat) (fs : List Value) (C : String) (TT : u_T) (yy : MethodName) (w : Cond) (mx : Nat), h.2 a = some (.inl (t, fs)) ∧ cl_L[t]? = some (C, TT, N) ∧ vt_Ok x C yy w mx ∧ mx ≤ 10 ∧ M_X G s0 l yy w rm (.ref a :: vs) h r0
theorem x_runW {rm : Room} {vs st0 : List Value} {x : MethodName} {r0 : Outcome × Hs_t} {index : Nat} {owner : String} (hc : Cx_t p s m meth c s0 A0 l G y cc nL ret hh) (hV : V_X G s0 l x rm a vs h r0) (hR : Rp_h G s0.heap h H) (w1 : ex_W (.methodLink y.cls index x)) (w2 : ex_W (.sameMethod x.cls owner x.name x.desc)) (w3 : dc_W ⟨owner, x.name, x.desc⟩) (howner : owner ≠ "java/lang/invoke/MethodHandle" ∧ owner ≠ "java/lang/invoke/VarHandle") (hml : ls.size = nL)
    (hlen : (parseMethodDescriptor x.desc).map (fun d => d.parameters.length) = some vs.length) (hstack : st0 = vs.reverse ++ .ref a :: st) (hW : (st.map fun v => v.category).sum ≤ 8) (hdg : decode cc pc = .ok (.invokevirtual index, 3)) (hR1 : rm.frames + 1 ≤ R.frames ∧ 8 + (10 + 11) + rm.locals ≤ R.locals) (hf : cells + rm.cells ≤ R.cells ∧ slots + rm.slots ≤ R.slots) :
    x_Run G s0 p l e R s m args below meth c H locs cells slots rm.cells rm.slots (F0 m pc ls st0) st r0 := by
  obtain ⟨t, N, fs, C, TT, yy, w, mx, ha, e1, hv, hmx, hM⟩ := hV
  exact x_runU hc hM hv hR ha e1 w1 w2 w3 howner hml hlen hstack hW hdg ⟨hR1.1, by omega⟩ hf
def rm_Ok (mc ms fr lo : Nat) (rm : Room) : Prop := mc ≤ rm.cells ∧ ms ≤ rm.slots ∧ fr ≤ rm.frames ∧ lo ≤ rm.locals
end RX
