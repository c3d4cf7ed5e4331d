/-! A new exception, thrown: 'new; dup; invokespecial <init>()V; athrow'. -/
theorem st_lays {U V : State} {A A' : Array Value} {o n d : String} (hv : V.vm = U.vm) (hH : ∀ q : Nat, q < U.heap.size → V.heap[q]? = U.heap[q]?) (h : (Cond.laysStatic o n d).before A U = true) : (Cond.laysStatic o n d).before A' V = true := by
  have e1 : V.fieldFound? o n d = U.fieldFound? o n d := by unfold State.fieldFound?; rw [hv]
  simp only [Cond.before, Cond.holds, Cond.value] at h ⊢
  rw [hv, e1]
  cases hf : U.vm.findClass o with
  | none => simp [hf] at h
  | some c1 =>
    cases hg : U.fieldFound? o n d with
    | none => simp [hf, hg] at h
    | some x =>
      obtain ⟨c', k, i, f⟩ := x
      simp only [hf, hg] at h ⊢
      cases hs : k.statics with
      | none => simp [hs] at h
      | some q =>
        simp only [hs, Option.bind_some] at h ⊢
        cases hq : U.heap[q]? with
        | none => simp [hq] at h
        | some cell =>
          rw [hH q (Array.getElem?_eq_some_iff.mp hq).1]
          simpa [hq] using h
theorem st_ref {U V : State} {A A' : Array Value} {o n d : String} (hv : V.vm = U.vm) (hH : ∀ q : Nat, q < U.heap.size → V.heap[q]? = U.heap[q]?) (h : (Cond.isRef (.static o n d)).before A U = true) : (Cond.isRef (.static o n d)).before A' V = true := by
  have e1 : V.fieldFound? o n d = U.fieldFound? o n d := by unfold State.fieldFound?; rw [hv]
  simp only [Cond.before, Cond.holds, Cond.value, Term.eval, State.fieldNamed?] at h ⊢
  rw [e1]
  cases hg : U.fieldFound? o n d with
  | none => simp [hg] at h
  | some x =>
    obtain ⟨c', k, i, f⟩ := x
    cases hst : f.isStatic with
    | false => simp [hg, hst] at h
    | true =>
      cases hs : k.statics with
      | none => simp [hg, hs, hst] at h
      | some q =>
        cases hq : U.heap[q]? with
        | none => simp [hg, hs, hq, hst] at h
        | some cell =>
          have h9 := hH q (Array.getElem?_eq_some_iff.mp hq).1
          simp [hg, hs, hq, hst] at h
          simp [hs, hst, h9, hq, h]
/-- the words that a thrown exception needs: such as the tables decide, and four on Throwable's statics -/
def th_W (w : Cond) : Prop := ex_W w ∨ (w ∈ lw_tbl ∧ ∃ o n d, w = .laysStatic o n d) ∨ w = .isRef (.static Bundle.tN "UNASSIGNED_STACK" Bundle.steD) ∨ w = .isRef (.static Bundle.tN "SUPPRESSED_SENTINEL" Bundle.listD)
theorem th_at {U s0 : State} {A0 args : Array Value} {l : Launch} {G : Gx_t} {w : Cond} (hG : G_0 l s0 A0 G) (hW : s0.WarmedH U.vm) (hH : ∀ q : Nat, q < s0.heap.size → U.heap[q]? = s0.heap[q]?) (hw : th_W w) : w.before args U = true := by
  rcases hw with h1 | ⟨h1, o, n, d, rfl⟩ | rfl | rfl
  · exact ex_warm hW h1.2 (hG.1 _ h1.1)
  · have h3 : (Cond.laysStatic o n d).before A0 (s0.setVm U.vm) = true := Cond.holds_shifted (State.Shifted.of_warmed hW) _ [] rfl (hG.1 _ h1)
    exact st_lays (U := s0.setVm U.vm) rfl hH h3
  · have h3 : (Cond.isRef (.static Bundle.tN "UNASSIGNED_STACK" Bundle.steD)).before A0 (s0.setVm U.vm) = true := Cond.holds_shifted (State.Shifted.of_warmed hW) _ [] rfl hG.2.2.2.1
    exact st_ref (U := s0.setVm U.vm) rfl hH h3
  · have h3 : (Cond.isRef (.static Bundle.tN "SUPPRESSED_SENTINEL" Bundle.listD)).before A0 (s0.setVm U.vm) = true := Cond.holds_shifted (State.Shifted.of_warmed hW) _ [] rfl hG.2.2.2.2.1
    exact st_ref (U := s0.setVm U.vm) rfl hH h3
def th_N (t : Nat) (h : Hs_t) : Rs_t := some (.threw h.1, hp_N h (ce_O t []))
section TH
variable {p : Program} {l : Launch} {e : Env} {R : Room} {s : State} {m : MethodId} {args : Array Value} {below : List Frame} {meth : Method} {c : Code} {H : Heap} {locs : List Loc} {cells slots : Nat} {Q : State → Prop}
variable {s0 : State} {A0 : Array Value} {G : Gx_t} {y : MethodName} {cc : ByteArray} {nL : Nat} {ret : Option FieldType} {hh : List (Nat × Nat × Nat × Nat)} {pc : Nat} {ls : Array Slot} {st : List Value} {h : Hs_t} {r : Outcome × Hs_t} {a : Nat}
set_option maxHeartbeats 4000000 in
theorem x_thr {index ic t : Nat} {cls : String} {TT : u_T} {names : List String} (hc : Cx_t p s m meth c s0 A0 l G y cc nL ret []) (hR : Rp_h G s0.heap h H) (hL : Lo_k s0 locs) (e1 : cl_L[t]? = some (cls, TT, 0)) (hcls : Bundle.fit cls = true) (hnames : ∀ n ∈ names, Bundle.fit n = true) (w1 : ex_W (.classLink y.cls index cls)) (w3 : ex_W (.initialized cls))
    (hat : ∀ w ∈ Bundle.ownAtoms0 y.cls ic cls names, th_W w) (hml : ls.size = nL) (hd0 : decode cc pc = .ok (.new index, 3)) (hd1 : decode cc (pc + 3) = .ok (.dup, 1)) (hd2 : decode cc (pc + 4) = .ok (.invokespecial ic, 3)) (hd3 : decode cc (pc + 7) = .ok (.athrow, 1))
    (hce : cells + 1 ≤ R.cells ∧ slots + 6 ≤ R.slots) (hfr : names.length + 3 < R.frames) (hlo : (st.map fun v => v.category).sum + (13 * (names.length + 1) + 42) ≤ R.locals) (heq : th_N t h = some r) :
    W p l e R s m args below meth c H locs cells slots (xq_MQ G s0 below r s R.cells R.slots) (F0 m pc ls st) := by
  cases heq
  have hx := hc.x
  have hb := hc.b
  have hs := hR.1
  intro T hT X
  have htr : e.platform.stackTraces = false := (show e.platform.stackTraces = l.stackTraces by rw [X.admits.platform]).trans hc.g.2.2.1
  have Y := vx_rebase X (R' := { frames := R.frames, locals := R.locals, cells := 1, slots := 6 }) (Nat.le_refl _) (Nat.le_refl _) hce.1 hce.2
  obtain ⟨s', hA⟩ : ∃ z, z = (T.setVm s.vm).setFrames (.invoking m args :: below) := ⟨_, rfl⟩
  rw [← hA] at Y
  have hvm : s'.vm = s.vm := by rw [hA]; rfl
  have hhp : s'.heap = H := by rw [hA]; exact hT
  have hW0 : s.WarmedH s'.vm := by rw [hvm]; exact State.WarmedH.refl s
  have hW1 : s0.WarmedH s'.vm := by rw [hvm]; exact hc.w0
  have hat' : ∀ w, th_W w → w.before args s' = true := fun w hw => th_at hc.g hW1 (by rw [hhp]; exact hR.2.2.1) hw
  have hat2 : ∀ w ∈ Bundle.ownAtoms0 y.cls ic cls names, w.before args s' = true := fun w hw => hat' w (hat w hw)
  have hown' : s'.vm.findClass y.cls = some m.cls := by rw [hvm]; exact hc.o
  have hins : (Cond.instantiable cls 6).before args s' = true := hat2 _ (by simp [Bundle.ownAtoms0])
  obtain ⟨vm₁, cX, kX, hfX, hkX, -, -, X₁, st1⟩ := Y.newCold hx (own := y.cls) (C := cls) (index := index) (n := 6) hown' (hat' _ (Or.inl w1)) hins (hat' _ (Or.inl w3))
    (g := F0 m pc ls st) rfl (by rw [hb]; exact hd0) (Nat.le_refl _) (Nat.le_refl _)
  generalize hT1 : (T.setVm vm₁).pushCell { cls := cX, slots := kX.instanceTypes.map defaultValue, vm := .none } = T1 at X₁ st1
  have hcat : (Value.ref T.heap.size).category = 1 := rfl
  have hcellA : T1.heap[T.heap.size]? = some (freshCell cX kX) := by rw [← hT1]; exact State.heap_pushCell_size _ _
  have d3' : decode c.code (pc + 3) = .ok (.dup, 1) := by rw [hb]; exact hd1
  obtain ⟨U, hsteps, hrun, hend, hW, hsame, ce, hce9, hO⟩ := X₁.ctorThrow0 hx htr (own := y.cls) (cls := cls) (names := names) (ic := ic) hown' hcls hnames hat2 (fun x hx => nomatch hx) hfX hkX hcellA (by rw [hhp, hT]; exact Nat.le_refl _)
    (g := { method := m, pc := pc + 4, locals := ls, stack := .ref T.heap.size :: .ref T.heap.size :: st, locked := none }) rfl (hml.trans hc.ml.symm) rfl rfl (rest := st) rfl
    (by rw [hb]; exact hd2) (by rw [hb]; exact hd3) (hc.off _) hfr (by simp only [List.map_cons, List.sum_cons, hcat]; show 2 * 0 + _ + _ ≤ _; omega) hc.k
  obtain ⟨f1, f2⟩ := vx_frame hsame
  rw [hhp] at f1 f2
  have hWs : s.WarmedH U.vm := State.WarmedH.trans hW0 hW
  have hall : s.sameButNew ({ U with vm := s.vm } : State) locs R.cells R.slots := by
    subst hA
    obtain ⟨q1, q2⟩ := hsame
    rw [State.setFrames_setFrames] at q1
    have h2 : (T.setVm s.vm).sameButNew ({ U with vm := s.vm } : State) [] (0 + 1) (0 + 6) := ⟨q1, q2⟩
    have h3 := X.same.trans h2
    rw [List.append_nil] at h3
    exact h3.mono hce.1 hce.2
  have hTs : T.heap.size = h.1 := by rw [hT]; exact hs
  have hUs : U.heap.size = H.size + 1 := by
    have g1 : U.heap.size ≤ s'.heap.size + (0 + 1) := hsame.2.2.1
    have g2 : T.heap.size < U.heap.size := (Array.getElem?_eq_some_iff.mp hce9).1
    rw [hhp] at g1
    rw [hT] at g2
    omega
  refine ⟨U, ?_, .threw T.heap.size, hrun, hend, ⟨by rw [hTs], ?_⟩, locs, ⟨hWs, hall⟩, hL⟩
  · refine st1 _ ?_
    show Steps p.tables e below (T1.setTop { method := m, pc := pc + 3, locals := ls, stack := .ref T.heap.size :: st, locked := none }) _
    jvm_step X₁.here [X₁.here.top, hx, d3', Value.category]
    exact hsteps
  · refine hR.new hUs (fun q hq => f2 q hq (fun z hz => nomatch hz)) ?_
    have hKn := hc.K.1 t _ e1
    have h9 := hO.cls
    rw [hvm] at h9
    refine ⟨_, e1, ce, ?_, (Option.some.inj (hKn.2.1.symm.trans h9)).symm, hO.vm, fun k hk => absurd hk (Nat.not_lt_zero k)⟩
    rw [← hT]
    exact hce9
/-! What is caught. -/
theorem x_row {S : State} {f : JFrame} {x : ExceptionTableEntry} {t : List ExceptionTableEntry} {k0 : ClassId} {cell : Cell} {Q : Handler → Pre} {E : CtlPost} {d : Bool} {acts : List Action} (hx : covers x f.pc = true) (h0 : x.catchType ≠ 0)
    (hl : S.vm.ClassLinks e.platform f.method.cls x.catchType k0) (hcell : S.heap[a]? = some cell) (hobj : ∀ k, cell.vm ≠ .statics k) (hk : ∃ k, S.vm.classes[cell.cls]? = some k) (hcl : ∃ k, S.vm.classes[k0]? = some k) :
    wp (findHandler.go f a (x :: t)) Q E e d acts S ↔ if S.vm.assignable cell.cls k0 = true then Q (.found x.handlerPc) d acts (S.setVm (S.vm.noted f.method.cls x.catchType (.cls k0))) else wp (findHandler.go f a t) Q E e d acts (S.setVm (S.vm.noted f.method.cls x.catchType (.cls k0))) := by
  simp only [covers] at hx
  obtain ⟨ha, ht⟩ := (resolveClass_links e.toSetting hl).op (op := VmOp.resolveClass f.method.cls x.catchType) rfl
  have hal : S.vm.Alike (S.vm.noted f.method.cls x.catchType (.cls k0)) := (Vm.Alike.refl S.vm).noted _ _ _
  obtain ⟨k1, hk1⟩ := hk
  obtain ⟨k2, hk2⟩ := hcl
  obtain ⟨k1', hk1', -⟩ := hal.2.2 _ _ hk1
  obtain ⟨k2', hk2', -⟩ := hal.2.2 _ _ hk2
  cases hfit : S.vm.assignable cell.cls k0
  · have hf : (S.vm.noted f.method.cls x.catchType (.cls k0)).assignable cell.cls k0 = false := by rw [hal.assignable]; exact hfit
    simp [findHandler.go, hx, h0, ha, ht, hcell, hobj, hk1', hk2', hf, VmOp.dirties, VmOp.acts]
  · have hf : (S.vm.noted f.method.cls x.catchType (.cls k0)).assignable cell.cls k0 = true := by rw [hal.assignable]; exact hfit
    simp [findHandler.go, hx, h0, ha, ht, hcell, hobj, hk1', hk2', hf, VmOp.dirties, VmOp.acts]
/-- a row of the table: it covers the place, and links to a class to which the thrown object's can, or can't, be assigned -/
def x_Lk (pl : Platform) (s : State) (d : ClassId) (pc : Nat) (th : ClassId) (z : ExceptionTableEntry) (yes : Bool) : Prop := covers z pc = true ∧ z.catchType ≠ 0 ∧ ∃ k0, s.vm.ClassLinks pl d z.catchType k0 ∧ s.vm.assignable th k0 = yes
theorem x_seek {f : JFrame} {cell : Cell} (hobj : ∀ k, cell.vm ≠ .statics k) (hk0 : ∃ k, s.vm.classes[cell.cls]? = some k) (x : ExceptionTableEntry) (suf : List ExceptionTableEntry) (hx : x_Lk e.platform s f.method.cls f.pc cell.cls x true) :
    ∀ (pre : List ExceptionTableEntry) (S : State), s.WarmedH S.vm → S.heap[a]? = some cell → (∀ z ∈ pre, x_Lk e.platform s f.method.cls f.pc cell.cls z false) →
      ∃ vm', s.WarmedH vm' ∧ ∀ (Q : Handler → Pre) (E : CtlPost) (d : Bool) (acts : List Action), wp (findHandler.go f a (pre ++ x :: suf)) Q E e d acts S ↔ Q (.found x.handlerPc) d acts (S.setVm vm') := by
  obtain ⟨kc, hkc⟩ := hk0
  intro pre
  induction pre with
  | nil =>
    intro S hW hcell _
    obtain ⟨c1, c2, k0, hl, hfit⟩ := hx
    obtain ⟨dk, _, _, kt, hd, _, _, _, _, hkt, _, hopen⟩ := hl.here
    obtain ⟨kc', hkc', -⟩ := hW.alike.2.2 _ _ hkc
    obtain ⟨kt', hkt', -⟩ := hW.alike.2.2 _ _ hkt
    refine ⟨_, hW.noted hd hopen (State.rightAt_cls hl), fun Q E d acts => ?_⟩
    rw [List.nil_append, x_row c1 c2 (hW.classLinks hl) hcell hobj ⟨kc', hkc'⟩ ⟨kt', hkt'⟩, if_pos (by rw [hW.alike.assignable]; exact hfit)]
  | cons z zs ih =>
    intro S hW hcell hp
    obtain ⟨c1, c2, k0, hl, hfit⟩ := hp z List.mem_cons_self
    obtain ⟨dk, _, _, kt, hd, _, _, _, _, hkt, _, hopen⟩ := hl.here
    obtain ⟨kc', hkc', -⟩ := hW.alike.2.2 _ _ hkc
    obtain ⟨kt', hkt', -⟩ := hW.alike.2.2 _ _ hkt
    obtain ⟨vm', hW', hq⟩ := ih (S.setVm (S.vm.noted f.method.cls z.catchType (.cls k0))) (hW.noted hd hopen (State.rightAt_cls hl)) hcell (fun q hq => hp q (List.mem_cons_of_mem _ hq))
    refine ⟨vm', hW', fun Q E d acts => ?_⟩
    rw [List.cons_append, x_row c1 c2 (hW.classLinks hl) hcell hobj ⟨kc', hkc'⟩ ⟨kt', hkt'⟩, if_neg (by rw [hW.alike.assignable, hfit]; exact Bool.false_ne_true)]
    exact hq Q E d acts
theorem x_stepC {S : State} {f : JFrame} {rr : List Frame} {hp : Nat} {vm' : Vm} (hfind : ∀ (Q : Handler → Pre) (E : CtlPost) (d : Bool) (acts : List Action), wp (findHandler f a) Q E e d acts S ↔ Q (.found hp) d acts (S.setVm vm')) :
    (stepThrowing e S a (.java f :: rr)).Is ((S.setVm vm').setFrames (.java { f with pc := hp, stack := [.ref a] } :: rr)) [] := by
  simp only [stepThrowing, searchFrame, vmDo]
  generalize hr : Sem.go _ e false [] S = res
  obtain ⟨as, rfl, ha⟩ := Sem.eq_ok_of hr (a := Handler.found hp) (s' := S.setVm vm') (acts' := []) (by simp [hfind _ _ _ _])
  exact ⟨rfl, ha⟩
/-- a thrown object that lies over the frame at pc is caught by the row x, behind rows that don't take it -/
theorem x_catch {T : State} {g : JFrame} {cell : Cell} (X : Stand p l e R s m args below meth c T locs cells slots) (hg : g.method = m) (hcell : T.heap[a]? = some cell) (hobj : ∀ k, cell.vm ≠ .statics k) (hk0 : ∃ k, s.vm.classes[cell.cls]? = some k)
    (pre : List ExceptionTableEntry) (x : ExceptionTableEntry) (suf : List ExceptionTableEntry) (hsp : c.exceptionTable.toList = pre ++ x :: suf) (hp : ∀ z ∈ pre, x_Lk e.platform s m.cls g.pc cell.cls z false) (hx : x_Lk e.platform s m.cls g.pc cell.cls x true) :
    ∃ vm', Stand p l e R s m args below meth c (T.setVm vm') locs cells slots ∧ ∀ target, Steps p.tables e below ((T.setVm vm').setTop { g with pc := x.handlerPc, stack := [.ref a] }) target → Steps p.tables e below ((T.setTop g).pushFrame (.throwing a)) target := by
  subst hg
  have hm : ((T.setTop g).pushFrame (.throwing a)).vm.method? g.method = some meth := by rw [Stand.throwing_vm]; exact X.method'
  obtain ⟨vm', hW', hq⟩ := x_seek (e := e) (f := g) hobj hk0 x suf hx pre ((T.setTop g).pushFrame (.throwing a)) (by rw [Stand.throwing_vm]; exact X.warmed) (by rw [Stand.throwing_heap]; exact hcell) hp
  refine ⟨vm', X.noted hW', fun target hrest => ?_⟩
  obtain ⟨hgo, hw⟩ := X.here.throwing (g := g) a
  refine Steps.head hgo hw ?_
  rw [stepThread_throwing (frames_entered X.here.top _), (x_stepC (S := (T.setTop g).pushFrame (.throwing a)) (fun Q E d acts => by rw [W.findHandler_eq hm X.code, hsp]; exact hq Q E d acts)).1]
  obtain ⟨g₀, hr⟩ := X.frames_eq
  rw [State.setTop_of_frames _ (show (T.setVm vm').frames = .java g₀ :: below from hr)] at hrest
  rw [hr]
  have he : (((T.setTop g).pushFrame (.throwing a)).setVm vm').setFrames (.java { g with pc := x.handlerPc, stack := [.ref a] } :: below) = (T.setVm vm').setFrames (.java { g with pc := x.handlerPc, stack := [.ref a] } :: below) := by
    rw [State.pushFrame, State.setTop_of_frames _ hr, State.setFrames_setFrames]
    show ((T.setVm vm').setFrames _).setFrames _ = _
    rw [State.setFrames_setFrames]
  exact he ▸ hrest
end TH
