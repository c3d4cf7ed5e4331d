section
-- ===== PART A: goes FIRST, ahead of the names: the tables' words, and 'selects' of the private methods out of them =====
/-- a private method of a class that the tables say can be made, by its rows of tables_1 -/
def lw_okq (q : MethodName × Nat) : Prop := (q.1.cls ≠ "java/lang/invoke/MethodHandle" ∧ q.1.cls ≠ "java/lang/invoke/VarHandle") ∧ Cond.instantiable q.1.cls q.2 ∈ tables_1 ∧ Cond.privateMethod q.1 ∈ tables_1 ∧ Cond.instanceMethod q.1 ∈ tables_1
theorem lw_p0 : lw_okq (⟨"StreamTower", "rowOf", "(Z)LStreamTower$Row;"⟩, 10) := ⟨⟨by decide +kernel, by decide +kernel⟩, List.mem_of_getElem? (i := 22) (by decide +kernel), List.mem_of_getElem? (i := 190) (by decide +kernel), List.mem_of_getElem? (i := 191) (by decide +kernel)⟩
theorem lw_p1 : lw_okq (⟨"java/lang/Throwable", "fillInStackTrace", "(I)Ljava/lang/Throwable;"⟩, 6) := ⟨⟨by decide +kernel, by decide +kernel⟩, List.mem_of_getElem? (i := 250) (by decide +kernel), List.mem_of_getElem? (i := 248) (by decide +kernel), List.mem_of_getElem? (i := 249) (by decide +kernel)⟩
theorem lw_p2 : lw_okq (⟨"StreamTower", "startReading", "()V"⟩, 10) := ⟨⟨by decide +kernel, by decide +kernel⟩, List.mem_of_getElem? (i := 22) (by decide +kernel), List.mem_of_getElem? (i := 428) (by decide +kernel), List.mem_of_getElem? (i := 429) (by decide +kernel)⟩
theorem lw_p3 : lw_okq (⟨"StreamTower", "refuseWhenClosed", "()V"⟩, 10) := ⟨⟨by decide +kernel, by decide +kernel⟩, List.mem_of_getElem? (i := 22) (by decide +kernel), List.mem_of_getElem? (i := 436) (by decide +kernel), List.mem_of_getElem? (i := 437) (by decide +kernel)⟩
theorem lw_p4 : lw_okq (⟨"StreamTower", "request", "(I)I"⟩, 10) := ⟨⟨by decide +kernel, by decide +kernel⟩, List.mem_of_getElem? (i := 22) (by decide +kernel), List.mem_of_getElem? (i := 440) (by decide +kernel), List.mem_of_getElem? (i := 441) (by decide +kernel)⟩
theorem lw_p5 : lw_okq (⟨"StreamTower$Lines", "countLineEnd", "(I)V"⟩, 5) := ⟨⟨by decide +kernel, by decide +kernel⟩, List.mem_of_getElem? (i := 401) (by decide +kernel), List.mem_of_getElem? (i := 471) (by decide +kernel), List.mem_of_getElem? (i := 472) (by decide +kernel)⟩
theorem lw_p6 : lw_okq (⟨"StreamTower$Buffer", "fill", "()I"⟩, 8) := ⟨⟨by decide +kernel, by decide +kernel⟩, List.mem_of_getElem? (i := 312) (by decide +kernel), List.mem_of_getElem? (i := 475) (by decide +kernel), List.mem_of_getElem? (i := 476) (by decide +kernel)⟩
theorem lw_p7 : lw_okq (⟨"StreamTower$Buffer", "forgetWhatNoMarkKeeps", "()V"⟩, 8) := ⟨⟨by decide +kernel, by decide +kernel⟩, List.mem_of_getElem? (i := 312) (by decide +kernel), List.mem_of_getElem? (i := 481) (by decide +kernel), List.mem_of_getElem? (i := 482) (by decide +kernel)⟩
theorem lw_p8 : lw_okq (⟨"StreamTower", "readAll", "(I)V"⟩, 10) := ⟨⟨by decide +kernel, by decide +kernel⟩, List.mem_of_getElem? (i := 22) (by decide +kernel), List.mem_of_getElem? (i := 514) (by decide +kernel), List.mem_of_getElem? (i := 515) (by decide +kernel)⟩
theorem lw_p9 : lw_okq (⟨"StreamTower", "numberInBag", "(I)J"⟩, 10) := ⟨⟨by decide +kernel, by decide +kernel⟩, List.mem_of_getElem? (i := 22) (by decide +kernel), List.mem_of_getElem? (i := 547) (by decide +kernel), List.mem_of_getElem? (i := 548) (by decide +kernel)⟩
theorem lw_p10 : lw_okq (⟨"StreamTower", "takeLetters", "()V"⟩, 10) := ⟨⟨by decide +kernel, by decide +kernel⟩, List.mem_of_getElem? (i := 22) (by decide +kernel), List.mem_of_getElem? (i := 567) (by decide +kernel), List.mem_of_getElem? (i := 568) (by decide +kernel)⟩
theorem lw_p11 : lw_okq (⟨"StreamTowerModel", "reads", "(I)Z"⟩, 28) := ⟨⟨by decide +kernel, by decide +kernel⟩, List.mem_of_getElem? (i := 707) (by decide +kernel), List.mem_of_getElem? (i := 822) (by decide +kernel), List.mem_of_getElem? (i := 823) (by decide +kernel)⟩
theorem lw_p12 : lw_okq (⟨"StreamTowerModel", "request", "(I)Z"⟩, 28) := ⟨⟨by decide +kernel, by decide +kernel⟩, List.mem_of_getElem? (i := 707) (by decide +kernel), List.mem_of_getElem? (i := 826) (by decide +kernel), List.mem_of_getElem? (i := 827) (by decide +kernel)⟩
theorem lw_p13 : lw_okq (⟨"StreamTowerModel", "answers", "(I)Z"⟩, 28) := ⟨⟨by decide +kernel, by decide +kernel⟩, List.mem_of_getElem? (i := 707) (by decide +kernel), List.mem_of_getElem? (i := 830) (by decide +kernel), List.mem_of_getElem? (i := 831) (by decide +kernel)⟩
theorem lw_p14 : lw_okq (⟨"StreamTowerModel", "toGive", "(I)I"⟩, 28) := ⟨⟨by decide +kernel, by decide +kernel⟩, List.mem_of_getElem? (i := 707) (by decide +kernel), List.mem_of_getElem? (i := 834) (by decide +kernel), List.mem_of_getElem? (i := 835) (by decide +kernel)⟩
theorem lw_p15 : lw_okq (⟨"StreamTowerModel", "give", "(II)V"⟩, 28) := ⟨⟨by decide +kernel, by decide +kernel⟩, List.mem_of_getElem? (i := 707) (by decide +kernel), List.mem_of_getElem? (i := 838) (by decide +kernel), List.mem_of_getElem? (i := 839) (by decide +kernel)⟩
def lw_privs_1 : List (MethodName × Nat) := [(⟨"StreamTower", "rowOf", "(Z)LStreamTower$Row;"⟩, 10), (⟨"java/lang/Throwable", "fillInStackTrace", "(I)Ljava/lang/Throwable;"⟩, 6), (⟨"StreamTower", "startReading", "()V"⟩, 10), (⟨"StreamTower", "refuseWhenClosed", "()V"⟩, 10), (⟨"StreamTower", "request", "(I)I"⟩, 10), (⟨"StreamTower$Lines", "countLineEnd", "(I)V"⟩, 5), (⟨"StreamTower$Buffer", "fill", "()I"⟩, 8), (⟨"StreamTower$Buffer", "forgetWhatNoMarkKeeps", "()V"⟩, 8), (⟨"StreamTower", "readAll", "(I)V"⟩, 10), (⟨"StreamTower", "numberInBag", "(I)J"⟩, 10), (⟨"StreamTower", "takeLetters", "()V"⟩, 10), (⟨"StreamTowerModel", "reads", "(I)Z"⟩, 28), (⟨"StreamTowerModel", "request", "(I)Z"⟩, 28), (⟨"StreamTowerModel", "answers", "(I)Z"⟩, 28), (⟨"StreamTowerModel", "toGive", "(I)I"⟩, 28), (⟨"StreamTowerModel", "give", "(II)V"⟩, 28)]
theorem lw_r1 : ∀ q ∈ lw_privs_1, lw_okq q := List.forall_mem_cons.mpr ⟨lw_p0, List.forall_mem_cons.mpr ⟨lw_p1, List.forall_mem_cons.mpr ⟨lw_p2, List.forall_mem_cons.mpr ⟨lw_p3, List.forall_mem_cons.mpr ⟨lw_p4, List.forall_mem_cons.mpr ⟨lw_p5, List.forall_mem_cons.mpr ⟨lw_p6, List.forall_mem_cons.mpr ⟨lw_p7, List.forall_mem_cons.mpr ⟨lw_p8, List.forall_mem_cons.mpr ⟨lw_p9, List.forall_mem_cons.mpr ⟨lw_p10, List.forall_mem_cons.mpr ⟨lw_p11, List.forall_mem_cons.mpr ⟨lw_p12, List.forall_mem_cons.mpr ⟨lw_p13, List.forall_mem_cons.mpr ⟨lw_p14, List.forall_mem_cons.mpr ⟨lw_p15, fun _ h => absurd h List.not_mem_nil⟩⟩⟩⟩⟩⟩⟩⟩⟩⟩⟩⟩⟩⟩⟩⟩
theorem lw_p16 : lw_okq (⟨"StreamTowerModel", "forget", "(II)V"⟩, 28) := ⟨⟨by decide +kernel, by decide +kernel⟩, List.mem_of_getElem? (i := 707) (by decide +kernel), List.mem_of_getElem? (i := 842) (by decide +kernel), List.mem_of_getElem? (i := 843) (by decide +kernel)⟩
theorem lw_p17 : lw_okq (⟨"StreamTowerModel", "below", "(I)I"⟩, 28) := ⟨⟨by decide +kernel, by decide +kernel⟩, List.mem_of_getElem? (i := 707) (by decide +kernel), List.mem_of_getElem? (i := 846) (by decide +kernel), List.mem_of_getElem? (i := 847) (by decide +kernel)⟩
theorem lw_p18 : lw_okq (⟨"StreamTowerModel", "through", "(I)Z"⟩, 28) := ⟨⟨by decide +kernel, by decide +kernel⟩, List.mem_of_getElem? (i := 707) (by decide +kernel), List.mem_of_getElem? (i := 850) (by decide +kernel), List.mem_of_getElem? (i := 851) (by decide +kernel)⟩
theorem lw_p19 : lw_okq (⟨"StreamTowerModel", "portionLeft", "()I"⟩, 28) := ⟨⟨by decide +kernel, by decide +kernel⟩, List.mem_of_getElem? (i := 707) (by decide +kernel), List.mem_of_getElem? (i := 854) (by decide +kernel), List.mem_of_getElem? (i := 855) (by decide +kernel)⟩
theorem lw_p20 : lw_okq (⟨"StreamTowerModel", "pass", "(I)V"⟩, 28) := ⟨⟨by decide +kernel, by decide +kernel⟩, List.mem_of_getElem? (i := 707) (by decide +kernel), List.mem_of_getElem? (i := 858) (by decide +kernel), List.mem_of_getElem? (i := 859) (by decide +kernel)⟩
theorem lw_p21 : lw_okq (⟨"StreamTowerModel", "countLines", "(I)V"⟩, 28) := ⟨⟨by decide +kernel, by decide +kernel⟩, List.mem_of_getElem? (i := 707) (by decide +kernel), List.mem_of_getElem? (i := 862) (by decide +kernel), List.mem_of_getElem? (i := 863) (by decide +kernel)⟩
theorem lw_p22 : lw_okq (⟨"StreamTowerModel", "putBag", "()V"⟩, 28) := ⟨⟨by decide +kernel, by decide +kernel⟩, List.mem_of_getElem? (i := 707) (by decide +kernel), List.mem_of_getElem? (i := 866) (by decide +kernel), List.mem_of_getElem? (i := 867) (by decide +kernel)⟩
theorem lw_p23 : lw_okq (⟨"StreamTowerModel", "fill", "(I)I"⟩, 28) := ⟨⟨by decide +kernel, by decide +kernel⟩, List.mem_of_getElem? (i := 707) (by decide +kernel), List.mem_of_getElem? (i := 878) (by decide +kernel), List.mem_of_getElem? (i := 879) (by decide +kernel)⟩
theorem lw_p24 : lw_okq (⟨"StreamTowerModel", "letterSize", "(I)I"⟩, 28) := ⟨⟨by decide +kernel, by decide +kernel⟩, List.mem_of_getElem? (i := 707) (by decide +kernel), List.mem_of_getElem? (i := 894) (by decide +kernel), List.mem_of_getElem? (i := 895) (by decide +kernel)⟩
theorem lw_p25 : lw_okq (⟨"StreamTowerModel", "further", "(I)Z"⟩, 28) := ⟨⟨by decide +kernel, by decide +kernel⟩, List.mem_of_getElem? (i := 707) (by decide +kernel), List.mem_of_getElem? (i := 898) (by decide +kernel), List.mem_of_getElem? (i := 899) (by decide +kernel)⟩
theorem lw_p26 : lw_okq (⟨"StreamTowerModel", "letterAt", "(II)I"⟩, 28) := ⟨⟨by decide +kernel, by decide +kernel⟩, List.mem_of_getElem? (i := 707) (by decide +kernel), List.mem_of_getElem? (i := 902) (by decide +kernel), List.mem_of_getElem? (i := 903) (by decide +kernel)⟩
theorem lw_p27 : lw_okq (⟨"StreamTowerModel", "bufferBelow", "()I"⟩, 28) := ⟨⟨by decide +kernel, by decide +kernel⟩, List.mem_of_getElem? (i := 707) (by decide +kernel), List.mem_of_getElem? (i := 914) (by decide +kernel), List.mem_of_getElem? (i := 915) (by decide +kernel)⟩
def lw_privs_2 : List (MethodName × Nat) := [(⟨"StreamTowerModel", "forget", "(II)V"⟩, 28), (⟨"StreamTowerModel", "below", "(I)I"⟩, 28), (⟨"StreamTowerModel", "through", "(I)Z"⟩, 28), (⟨"StreamTowerModel", "portionLeft", "()I"⟩, 28), (⟨"StreamTowerModel", "pass", "(I)V"⟩, 28), (⟨"StreamTowerModel", "countLines", "(I)V"⟩, 28), (⟨"StreamTowerModel", "putBag", "()V"⟩, 28), (⟨"StreamTowerModel", "fill", "(I)I"⟩, 28), (⟨"StreamTowerModel", "letterSize", "(I)I"⟩, 28), (⟨"StreamTowerModel", "further", "(I)Z"⟩, 28), (⟨"StreamTowerModel", "letterAt", "(II)I"⟩, 28), (⟨"StreamTowerModel", "bufferBelow", "()I"⟩, 28)]
theorem lw_r2 : ∀ q ∈ lw_privs_2, lw_okq q := List.forall_mem_cons.mpr ⟨lw_p16, List.forall_mem_cons.mpr ⟨lw_p17, List.forall_mem_cons.mpr ⟨lw_p18, List.forall_mem_cons.mpr ⟨lw_p19, List.forall_mem_cons.mpr ⟨lw_p20, List.forall_mem_cons.mpr ⟨lw_p21, List.forall_mem_cons.mpr ⟨lw_p22, List.forall_mem_cons.mpr ⟨lw_p23, List.forall_mem_cons.mpr ⟨lw_p24, List.forall_mem_cons.mpr ⟨lw_p25, List.forall_mem_cons.mpr ⟨lw_p26, List.forall_mem_cons.mpr ⟨lw_p27, fun _ h => absurd h List.not_mem_nil⟩⟩⟩⟩⟩⟩⟩⟩⟩⟩⟩⟩
def lw_privs : List (MethodName × Nat) := lw_privs_1 ++ (lw_privs_2)
def lw_tbl : List Cond := k2_sels lw_privs ++ tables_1
theorem lw_privs_ok : ∀ q ∈ lw_privs, lw_okq q := by
  show ∀ q ∈ lw_privs_1 ++ (lw_privs_2), lw_okq q
  exact List.forall_mem_append.mpr ⟨lw_r1, lw_r2⟩
section VB
variable {p : Program} {l : Launch} {e : Env} {R : Room} {s : State} {m : MethodId} {args : Array Value} {below : List Frame} {meth : Method} {c : Code} {H : Heap} {locs : List Loc} {cells slots : Nat}
theorem vx_frame {U : State} {k n : Nat} (h : s.sameButNew ({ U with vm := s.vm } : State) locs k n) : s.heap.size ≤ U.heap.size ∧ ∀ q : Nat, q < s.heap.size → (∀ z ∈ locs, z.base ≠ q) → U.heap[q]? = s.heap[q]? := by
  obtain ⟨-, h2, -, -, -, h6⟩ := h
  refine ⟨h2, fun q hq hz => ?_⟩
  obtain ⟨c9, e1, e2, e3, e4⟩ := h6 q _ (Array.getElem?_eq_getElem hq)
  have hs : c9.slots = (s.heap[q]).slots := Array.ext_getElem? fun i => e4 i fun hm => hz _ hm rfl
  have h9 : c9 = s.heap[q] := by
    rw [hs] at e2
    exact e2
  have e5 : U.heap[q]? = some c9 := e1
  rw [e5, h9, Array.getElem?_eq_getElem hq]
theorem vx_rebase {T : State} (X : Stand p l e R s m args below meth c T locs cells slots) {R' : Room} (hf : R'.frames ≤ R.frames) (hl : R'.locals ≤ R.locals) (hc : cells + R'.cells ≤ R.cells) (hs : slots + R'.slots ≤ R.slots) :
    Stand p l e R' ((T.setVm s.vm).setFrames (.invoking m args :: below)) m args below meth c T [] 0 0 := by
  have htop : (T.setVm s.vm).topJava?.isSome := X.here.top
  have hF : ((T.setVm s.vm).setFrames (.invoking m args :: below)).frames = .invoking m args :: below := State.frames_setFrames _ (State.cur_lt_of_top htop)
  obtain ⟨g₀, hg0⟩ := Option.isSome_iff_exists.mp htop
  obtain ⟨r, hr⟩ := State.topJava?_eq_some.mp hg0
  have hl9 : e.platform.stackLimits (T.setVm s.vm).me = e.platform.stackLimits s.me := X.limits
  have hb9 : (T.setVm s.vm).me.stackBytes = s.me.stackBytes := X.bytes
  refine ⟨X.admits, X.cas, X.clock, hF, ?_, X.hears, X.method, X.code, X.here, X.tail, X.warmed, ?_, ?_, ?_⟩
  · have h := X.room
    have hU : ((T.setVm s.vm).setFrames (.invoking m args :: below)).localsInUse = s.localsInUse := by
      rw [State.localsInUse_invoking hF (meth := meth) (c := c) X.method X.code, State.localsInUse_invoking X.frames X.method X.code]
    simp only [State.hasRoom, Bool.and_eq_true, decide_eq_true_eq] at h ⊢
    obtain ⟨⟨⟨⟨h1, h2, h3, h4, h5, h6⟩, h7⟩, h8⟩, h9⟩ := h
    rw [X.frames, List.length_cons] at h2 h3
    have q1 := X.heapSize
    have q2 := X.used
    simp only [hF, hU, List.length_cons, State.stackLimits_setFrames, State.stackBytes_setFrames, hl9, hb9]
    refine ⟨⟨⟨⟨by omega, by omega, by omega, by omega, by omega, h6⟩, ?_⟩, ?_⟩, X.book⟩
    · show T.heap.size + R'.cells ≤ e.platform.maxCells
      omega
    · show T.slotsUsed + R'.slots ≤ e.platform.maxSlots
      omega
  · rw [State.stackLimits_setFrames]; rfl
  · rw [State.stackBytes_setFrames]; rfl
  · refine ⟨?_, Nat.le_refl _, Nat.le_refl _, ?_, ?_, fun a c9 h9 => ⟨c9, h9, rfl, rfl, fun _ _ => rfl⟩⟩
    · obtain ⟨t, ht, -⟩ := State.frames_cons hr
      show T.setVm s.vm = { ((T.setVm s.vm).setFrames (.invoking m args :: below)).setFrames (T.setVm s.vm).frames with heap := T.heap, slotsUsed := T.slotsUsed }
      rw [State.setFrames_setFrames, State.setFrames_self ht]
      rfl
    · show T.slotsUsed = T.slotsUsed + ((T.heap.toList.drop T.heap.size).map (·.slots.size)).sum
      rw [List.drop_eq_nil_of_le (Nat.le_of_eq Array.length_toList)]
      rfl
    · show ((T.heap.toList.drop T.heap.size).map (·.slots.size)).sum ≤ 0
      rw [List.drop_eq_nil_of_le (Nat.le_of_eq Array.length_toList)]
      exact Nat.le_refl _
end VB
end
section
def ex_El : String := "StreamTower$Stream"
def T_0 : u_T := fun k => match k with
  | 0 => ("StreamTower", "source", "LStreamTower$Source;", true)
  | 1 => ("StreamTower", "layers", "[LStreamTower$Stream;", true)
  | 2 => ("StreamTower", "answered", "[I", true)
  | 3 => ("StreamTower", "bag", "LStreamTower$Row;", true)
  | 4 => ("StreamTower", "letters", "LStreamTower$Row;", true)
  | 5 => ("StreamTower", "top", "LStreamTower$Stream;", false)
  | 6 => ("StreamTower", "layerCount", "I", false)
  | 7 => ("StreamTower", "closed", "Z", false)
  | 8 => ("StreamTower", "leavesOutLineFeed", "Z", false)
  | _ => ("StreamTower", "leftOutLineFeedAtMark", "Z", false)
def T_1 : u_T := fun k => match k with
  | 0 => ("StreamTower$Row", "items", "[I", true)
  | _ => ("StreamTower$Row", "count", "I", false)
def T_2 : u_T := fun k => match k with
  | 0 => ("StreamTower$Source", "bytes", "[I", true)
  | 1 => ("StreamTower$Source", "startsPortion", "[Z", true)
  | 2 => ("StreamTower$Source", "broken", "[Z", true)
  | 3 => ("StreamTower$Source", "count", "I", false)
  | _ => ("StreamTower$Source", "taken", "I", false)
def T_3 : u_T := fun k => match k with
  | 0 => ("StreamTower$Buffer", "below", "LStreamTower$Stream;", true)
  | 1 => ("StreamTower$Buffer", "room", "I", true)
  | 2 => ("StreamTower$Buffer", "kept", "[I", true)
  | 3 => ("StreamTower$Buffer", "first", "I", false)
  | 4 => ("StreamTower$Buffer", "next", "I", false)
  | 5 => ("StreamTower$Buffer", "end", "I", false)
  | 6 => ("StreamTower$Buffer", "marked", "Z", false)
  | _ => ("StreamTower$Buffer", "markLimit", "I", false)
def T_4 : u_T := fun k => match k with
  | 0 => ("StreamTower$Pushback", "below", "LStreamTower$Stream;", true)
  | 1 => ("StreamTower$Pushback", "bytes", "[I", true)
  | _ => ("StreamTower$Pushback", "count", "I", false)
def T_5 : u_T := fun k => match k with
  | 0 => ("StreamTower$Passing", "below", "LStreamTower$Stream;", true)
  | 1 => ("StreamTower$Limit", "left", "I", false)
  | _ => ("StreamTower$Limit", "leftAtMark", "I", false)
def T_6 : u_T := fun k => match k with
  | 0 => ("StreamTower$Passing", "below", "LStreamTower$Stream;", true)
  | 1 => ("StreamTower$Code", "key", "I", true)
  | 2 => ("StreamTower$Code", "coded", "I", false)
  | _ => ("StreamTower$Code", "codedAtMark", "I", false)
def T_7 : u_T := fun k => match k with
  | 0 => ("StreamTower$Passing", "below", "LStreamTower$Stream;", true)
  | 1 => ("StreamTower$Lines", "lineEnds", "I", false)
  | 2 => ("StreamTower$Lines", "lineEndsAtMark", "I", false)
  | 3 => ("StreamTower$Lines", "lastWasReturn", "Z", false)
  | _ => ("StreamTower$Lines", "lastWasReturnAtMark", "Z", false)
def T_8 : u_T := fun k => match k with
  | 0 => ("StreamTowerModel", "code", "I", false)
  | 1 => ("StreamTowerModel", "source", "[I", true)
  | 2 => ("StreamTowerModel", "begins", "[Z", true)
  | 3 => ("StreamTowerModel", "broken", "[Z", true)
  | 4 => ("StreamTowerModel", "fed", "I", false)
  | 5 => ("StreamTowerModel", "taken", "I", false)
  | 6 => ("StreamTowerModel", "layers", "I", false)
  | 7 => ("StreamTowerModel", "kind", "[I", true)
  | 8 => ("StreamTowerModel", "sizes", "[I", true)
  | 9 => ("StreamTowerModel", "state", "[I", true)
  | 10 => ("StreamTowerModel", "remembered", "[I", true)
  | 11 => ("StreamTowerModel", "cr", "[Z", true)
  | 12 => ("StreamTowerModel", "crRemembered", "[Z", true)
  | 13 => ("StreamTowerModel", "bytes", "[I", true)
  | 14 => ("StreamTowerModel", "have", "[I", true)
  | 15 => ("StreamTowerModel", "given", "[I", true)
  | 16 => ("StreamTowerModel", "marked", "[Z", true)
  | 17 => ("StreamTowerModel", "limit", "[I", true)
  | 18 => ("StreamTowerModel", "asked", "[I", true)
  | 19 => ("StreamTowerModel", "answer", "[I", true)
  | 20 => ("StreamTowerModel", "count", "I", false)
  | 21 => ("StreamTowerModel", "closed", "Z", false)
  | 22 => ("StreamTowerModel", "leaves", "Z", false)
  | 23 => ("StreamTowerModel", "leavesMarked", "Z", false)
  | 24 => ("StreamTowerModel", "bag", "[I", true)
  | 25 => ("StreamTowerModel", "bagged", "I", false)
  | 26 => ("StreamTowerModel", "letters", "[I", true)
  | _ => ("StreamTowerModel", "lettered", "I", false)
def T_9 : u_T := fun k => match k with
  | _ => ("", "", "", false)
def T_10 : u_T := fun k => match k with
  | _ => ("", "", "", false)
def T_11 : u_T := fun k => match k with
  | _ => ("", "", "", false)
def T_12 : u_T := fun k => match k with
  | _ => ("", "", "", false)
abbrev cl_L : List vw_C := [("StreamTower", T_0, 10), ("StreamTower$Row", T_1, 2), ("StreamTower$Source", T_2, 5), ("StreamTower$Buffer", T_3, 8), ("StreamTower$Pushback", T_4, 3), ("StreamTower$Limit", T_5, 3), ("StreamTower$Code", T_6, 4), ("StreamTower$Lines", T_7, 5), ("StreamTowerModel", T_8, 28), ("java/lang/IllegalArgumentException", T_9, 0), ("java/lang/IllegalStateException", T_10, 0), ("java/util/NoSuchElementException", T_11, 0), ("java/lang/UnsupportedOperationException", T_12, 0)]
abbrev b_T_init : ByteArray := prog_1_method_1_code
def y_T_init : MethodName := ⟨"StreamTower", "<init>", "()V"⟩
abbrev b_T_feed : ByteArray := prog_1_method_2_code
def y_T_feed : MethodName := ⟨"StreamTower", "feed", "(II)I"⟩
abbrev b_T_portion : ByteArray := prog_1_method_3_code
def y_T_portion : MethodName := ⟨"StreamTower", "portion", "()V"⟩
abbrev b_T_breakAt : ByteArray := prog_1_method_4_code
def y_T_breakAt : MethodName := ⟨"StreamTower", "breakAt", "(I)Z"⟩
abbrev b_T_push : ByteArray := prog_1_method_5_code
def y_T_push : MethodName := ⟨"StreamTower", "push", "(II)I"⟩
abbrev b_T_read : ByteArray := prog_1_method_6_code
def y_T_read : MethodName := ⟨"StreamTower", "read", "()I"⟩
abbrev b_T_some : ByteArray := prog_1_method_7_code
def y_T_some : MethodName := ⟨"StreamTower", "some", "(I)I"⟩
abbrev b_T_full : ByteArray := prog_1_method_8_code
def y_T_full : MethodName := ⟨"StreamTower", "full", "(I)V"⟩
abbrev b_T_skip : ByteArray := prog_1_method_9_code
def y_T_skip : MethodName := ⟨"StreamTower", "skip", "(I)I"⟩
abbrev b_T_number : ByteArray := prog_1_method_10_code
def y_T_number : MethodName := ⟨"StreamTower", "number", "(I)J"⟩
abbrev b_T_text : ByteArray := prog_1_method_11_code
def y_T_text : MethodName := ⟨"StreamTower", "text", "()I"⟩
abbrev b_T_line : ByteArray := prog_1_method_12_code
def y_T_line : MethodName := ⟨"StreamTower", "line", "()I"⟩
abbrev b_T_mark : ByteArray := prog_1_method_13_code
def y_T_mark : MethodName := ⟨"StreamTower", "mark", "(I)V"⟩
abbrev b_T_reset : ByteArray := prog_1_method_14_code
def y_T_reset : MethodName := ⟨"StreamTower", "reset", "()V"⟩
abbrev b_T_unread : ByteArray := prog_1_method_15_code
def y_T_unread : MethodName := ⟨"StreamTower", "unread", "(I)V"⟩
abbrev b_T_available : ByteArray := prog_1_method_16_code
def y_T_available : MethodName := ⟨"StreamTower", "available", "()I"⟩
abbrev b_T_close : ByteArray := prog_1_method_17_code
def y_T_close : MethodName := ⟨"StreamTower", "close", "()V"⟩
abbrev b_T_about : ByteArray := prog_1_method_18_code
def y_T_about : MethodName := ⟨"StreamTower", "about", "(I)I"⟩
abbrev b_T_size : ByteArray := prog_1_method_19_code
def y_T_size : MethodName := ⟨"StreamTower", "size", "(Z)I"⟩
abbrev b_T_at : ByteArray := prog_1_method_20_code
def y_T_at : MethodName := ⟨"StreamTower", "at", "(IZ)I"⟩
abbrev b_T_rowOf : ByteArray := prog_1_method_21_code
def y_T_rowOf : MethodName := ⟨"StreamTower", "rowOf", "(Z)LStreamTower$Row;"⟩
abbrev b_T_isSizeOfKind : ByteArray := prog_1_method_22_code
def y_T_isSizeOfKind : MethodName := ⟨"StreamTower", "isSizeOfKind", "(II)Z"⟩
abbrev b_T_layerOver : ByteArray := prog_1_method_23_code
def y_T_layerOver : MethodName := ⟨"StreamTower", "layerOver", "(LStreamTower$Stream;II)LStreamTower$Stream;"⟩
abbrev b_T_refuseWhenClosed : ByteArray := prog_1_method_24_code
def y_T_refuseWhenClosed : MethodName := ⟨"StreamTower", "refuseWhenClosed", "()V"⟩
abbrev b_T_startReading : ByteArray := prog_1_method_25_code
def y_T_startReading : MethodName := ⟨"StreamTower", "startReading", "()V"⟩
abbrev b_T_request : ByteArray := prog_1_method_26_code
def y_T_request : MethodName := ⟨"StreamTower", "request", "(I)I"⟩
abbrev b_T_readAll : ByteArray := prog_1_method_27_code
def y_T_readAll : MethodName := ⟨"StreamTower", "readAll", "(I)V"⟩
abbrev b_T_numberInBag : ByteArray := prog_1_method_28_code
def y_T_numberInBag : MethodName := ⟨"StreamTower", "numberInBag", "(I)J"⟩
abbrev b_T_holdsJustLetters : ByteArray := prog_1_method_29_code
def y_T_holdsJustLetters : MethodName := ⟨"StreamTower", "holdsJustLetters", "(LStreamTower$Row;I)Z"⟩
abbrev b_T_takeLetters : ByteArray := prog_1_method_30_code
def y_T_takeLetters : MethodName := ⟨"StreamTower", "takeLetters", "()V"⟩
abbrev b_T_letterWidth : ByteArray := prog_1_method_31_code
def y_T_letterWidth : MethodName := ⟨"StreamTower", "letterWidth", "(LStreamTower$Row;I)I"⟩
abbrev b_T_widthByFirstByte : ByteArray := prog_1_method_32_code
def y_T_widthByFirstByte : MethodName := ⟨"StreamTower", "widthByFirstByte", "(I)I"⟩
abbrev b_T_letterOf : ByteArray := prog_1_method_33_code
def y_T_letterOf : MethodName := ⟨"StreamTower", "letterOf", "(LStreamTower$Row;II)I"⟩
abbrev b_M_init : ByteArray := prog_12_method_1_code
def y_M_init : MethodName := ⟨"StreamTowerModel", "<init>", "()V"⟩
abbrev b_M_thrown : ByteArray := prog_12_method_2_code
def y_M_thrown : MethodName := ⟨"StreamTowerModel", "thrown", "()I"⟩
abbrev b_M_feed : ByteArray := prog_12_method_3_code
def y_M_feed : MethodName := ⟨"StreamTowerModel", "feed", "(II)I"⟩
abbrev b_M_portion : ByteArray := prog_12_method_4_code
def y_M_portion : MethodName := ⟨"StreamTowerModel", "portion", "()V"⟩
abbrev b_M_breakAt : ByteArray := prog_12_method_5_code
def y_M_breakAt : MethodName := ⟨"StreamTowerModel", "breakAt", "(I)Z"⟩
abbrev b_M_portionLeft : ByteArray := prog_12_method_6_code
def y_M_portionLeft : MethodName := ⟨"StreamTowerModel", "portionLeft", "()I"⟩
abbrev b_M_push : ByteArray := prog_12_method_7_code
def y_M_push : MethodName := ⟨"StreamTowerModel", "push", "(II)I"⟩
abbrev b_M_toGive : ByteArray := prog_12_method_8_code
def y_M_toGive : MethodName := ⟨"StreamTowerModel", "toGive", "(I)I"⟩
abbrev b_M_forget : ByteArray := prog_12_method_9_code
def y_M_forget : MethodName := ⟨"StreamTowerModel", "forget", "(II)V"⟩
abbrev b_M_give : ByteArray := prog_12_method_10_code
def y_M_give : MethodName := ⟨"StreamTowerModel", "give", "(II)V"⟩
abbrev b_M_answers : ByteArray := prog_12_method_11_code
def y_M_answers : MethodName := ⟨"StreamTowerModel", "answers", "(I)Z"⟩
abbrev b_M_through : ByteArray := prog_12_method_12_code
def y_M_through : MethodName := ⟨"StreamTowerModel", "through", "(I)Z"⟩
abbrev b_M_below : ByteArray := prog_12_method_13_code
def y_M_below : MethodName := ⟨"StreamTowerModel", "below", "(I)I"⟩
abbrev b_M_countLines : ByteArray := prog_12_method_14_code
def y_M_countLines : MethodName := ⟨"StreamTowerModel", "countLines", "(I)V"⟩
abbrev b_M_pass : ByteArray := prog_12_method_15_code
def y_M_pass : MethodName := ⟨"StreamTowerModel", "pass", "(I)V"⟩
abbrev b_M_request : ByteArray := prog_12_method_16_code
def y_M_request : MethodName := ⟨"StreamTowerModel", "request", "(I)Z"⟩
abbrev b_M_reads : ByteArray := prog_12_method_17_code
def y_M_reads : MethodName := ⟨"StreamTowerModel", "reads", "(I)Z"⟩
abbrev b_M_putBag : ByteArray := prog_12_method_18_code
def y_M_putBag : MethodName := ⟨"StreamTowerModel", "putBag", "()V"⟩
abbrev b_M_read : ByteArray := prog_12_method_19_code
def y_M_read : MethodName := ⟨"StreamTowerModel", "read", "()I"⟩
abbrev b_M_some : ByteArray := prog_12_method_20_code
def y_M_some : MethodName := ⟨"StreamTowerModel", "some", "(I)I"⟩
abbrev b_M_fill : ByteArray := prog_12_method_21_code
def y_M_fill : MethodName := ⟨"StreamTowerModel", "fill", "(I)I"⟩
abbrev b_M_full : ByteArray := prog_12_method_22_code
def y_M_full : MethodName := ⟨"StreamTowerModel", "full", "(I)V"⟩
abbrev b_M_skip : ByteArray := prog_12_method_23_code
def y_M_skip : MethodName := ⟨"StreamTowerModel", "skip", "(I)I"⟩
abbrev b_M_number : ByteArray := prog_12_method_24_code
def y_M_number : MethodName := ⟨"StreamTowerModel", "number", "(I)J"⟩
abbrev b_M_further : ByteArray := prog_12_method_25_code
def y_M_further : MethodName := ⟨"StreamTowerModel", "further", "(I)Z"⟩
abbrev b_M_letterSize : ByteArray := prog_12_method_26_code
def y_M_letterSize : MethodName := ⟨"StreamTowerModel", "letterSize", "(I)I"⟩
abbrev b_M_letterAt : ByteArray := prog_12_method_27_code
def y_M_letterAt : MethodName := ⟨"StreamTowerModel", "letterAt", "(II)I"⟩
abbrev b_M_text : ByteArray := prog_12_method_28_code
def y_M_text : MethodName := ⟨"StreamTowerModel", "text", "()I"⟩
abbrev b_M_line : ByteArray := prog_12_method_29_code
def y_M_line : MethodName := ⟨"StreamTowerModel", "line", "()I"⟩
abbrev b_M_bufferBelow : ByteArray := prog_12_method_30_code
def y_M_bufferBelow : MethodName := ⟨"StreamTowerModel", "bufferBelow", "()I"⟩
abbrev b_M_mark : ByteArray := prog_12_method_31_code
def y_M_mark : MethodName := ⟨"StreamTowerModel", "mark", "(I)V"⟩
abbrev b_M_reset : ByteArray := prog_12_method_32_code
def y_M_reset : MethodName := ⟨"StreamTowerModel", "reset", "()V"⟩
abbrev b_M_unread : ByteArray := prog_12_method_33_code
def y_M_unread : MethodName := ⟨"StreamTowerModel", "unread", "(I)V"⟩
abbrev b_M_available : ByteArray := prog_12_method_34_code
def y_M_available : MethodName := ⟨"StreamTowerModel", "available", "()I"⟩
abbrev b_M_close : ByteArray := prog_12_method_35_code
def y_M_close : MethodName := ⟨"StreamTowerModel", "close", "()V"⟩
abbrev b_M_about : ByteArray := prog_12_method_36_code
def y_M_about : MethodName := ⟨"StreamTowerModel", "about", "(I)I"⟩
abbrev b_M_size : ByteArray := prog_12_method_37_code
def y_M_size : MethodName := ⟨"StreamTowerModel", "size", "(Z)I"⟩
abbrev b_M_at : ByteArray := prog_12_method_38_code
def y_M_at : MethodName := ⟨"StreamTowerModel", "at", "(IZ)I"⟩
abbrev b_Buf_init : ByteArray := prog_2_method_1_code
def y_Buf_init : MethodName := ⟨"StreamTower$Buffer", "<init>", "(LStreamTower$Stream;I)V"⟩
abbrev b_Buf_answer : ByteArray := prog_2_method_2_code
def y_Buf_answer : MethodName := ⟨"StreamTower$Buffer", "answer", "(I[II)I"⟩
abbrev b_Buf_fill : ByteArray := prog_2_method_3_code
def y_Buf_fill : MethodName := ⟨"StreamTower$Buffer", "fill", "()I"⟩
abbrev b_Buf_forgetWhatNoMarkKeeps : ByteArray := prog_2_method_4_code
def y_Buf_forgetWhatNoMarkKeeps : MethodName := ⟨"StreamTower$Buffer", "forgetWhatNoMarkKeeps", "()V"⟩
abbrev b_Buf_ready : ByteArray := prog_2_method_5_code
def y_Buf_ready : MethodName := ⟨"StreamTower$Buffer", "ready", "()I"⟩
abbrev b_Buf_state : ByteArray := prog_2_method_6_code
def y_Buf_state : MethodName := ⟨"StreamTower$Buffer", "state", "()I"⟩
abbrev b_Buf_canBeMarked : ByteArray := prog_2_method_7_code
def y_Buf_canBeMarked : MethodName := ⟨"StreamTower$Buffer", "canBeMarked", "()Z"⟩
abbrev b_Buf_hasMark : ByteArray := prog_2_method_8_code
def y_Buf_hasMark : MethodName := ⟨"StreamTower$Buffer", "hasMark", "()Z"⟩
abbrev b_Buf_takeMark : ByteArray := prog_2_method_9_code
def y_Buf_takeMark : MethodName := ⟨"StreamTower$Buffer", "takeMark", "(I)V"⟩
abbrev b_Buf_goBack : ByteArray := prog_2_method_10_code
def y_Buf_goBack : MethodName := ⟨"StreamTower$Buffer", "goBack", "()V"⟩
abbrev b_Cod_init : ByteArray := prog_3_method_1_code
def y_Cod_init : MethodName := ⟨"StreamTower$Code", "<init>", "(LStreamTower$Stream;I)V"⟩
abbrev b_Cod_answer : ByteArray := prog_3_method_2_code
def y_Cod_answer : MethodName := ⟨"StreamTower$Code", "answer", "(I[II)I"⟩
abbrev b_Cod_state : ByteArray := prog_3_method_3_code
def y_Cod_state : MethodName := ⟨"StreamTower$Code", "state", "()I"⟩
abbrev b_Cod_remember : ByteArray := prog_3_method_4_code
def y_Cod_remember : MethodName := ⟨"StreamTower$Code", "remember", "()V"⟩
abbrev b_Cod_recall : ByteArray := prog_3_method_5_code
def y_Cod_recall : MethodName := ⟨"StreamTower$Code", "recall", "()V"⟩
abbrev b_Lim_init : ByteArray := prog_4_method_1_code
def y_Lim_init : MethodName := ⟨"StreamTower$Limit", "<init>", "(LStreamTower$Stream;I)V"⟩
abbrev b_Lim_answer : ByteArray := prog_4_method_2_code
def y_Lim_answer : MethodName := ⟨"StreamTower$Limit", "answer", "(I[II)I"⟩
abbrev b_Lim_ready : ByteArray := prog_4_method_3_code
def y_Lim_ready : MethodName := ⟨"StreamTower$Limit", "ready", "()I"⟩
abbrev b_Lim_state : ByteArray := prog_4_method_4_code
def y_Lim_state : MethodName := ⟨"StreamTower$Limit", "state", "()I"⟩
abbrev b_Lim_remember : ByteArray := prog_4_method_5_code
def y_Lim_remember : MethodName := ⟨"StreamTower$Limit", "remember", "()V"⟩
abbrev b_Lim_recall : ByteArray := prog_4_method_6_code
def y_Lim_recall : MethodName := ⟨"StreamTower$Limit", "recall", "()V"⟩
abbrev b_Lin_init : ByteArray := prog_5_method_1_code
def y_Lin_init : MethodName := ⟨"StreamTower$Lines", "<init>", "(LStreamTower$Stream;)V"⟩
abbrev b_Lin_answer : ByteArray := prog_5_method_2_code
def y_Lin_answer : MethodName := ⟨"StreamTower$Lines", "answer", "(I[II)I"⟩
abbrev b_Lin_countLineEnd : ByteArray := prog_5_method_3_code
def y_Lin_countLineEnd : MethodName := ⟨"StreamTower$Lines", "countLineEnd", "(I)V"⟩
abbrev b_Lin_state : ByteArray := prog_5_method_4_code
def y_Lin_state : MethodName := ⟨"StreamTower$Lines", "state", "()I"⟩
abbrev b_Lin_remember : ByteArray := prog_5_method_5_code
def y_Lin_remember : MethodName := ⟨"StreamTower$Lines", "remember", "()V"⟩
abbrev b_Lin_recall : ByteArray := prog_5_method_6_code
def y_Lin_recall : MethodName := ⟨"StreamTower$Lines", "recall", "()V"⟩
abbrev b_Pas_init : ByteArray := prog_6_method_1_code
def y_Pas_init : MethodName := ⟨"StreamTower$Passing", "<init>", "(LStreamTower$Stream;)V"⟩
abbrev b_Pas_ready : ByteArray := prog_6_method_4_code
def y_Pas_ready : MethodName := ⟨"StreamTower$Passing", "ready", "()I"⟩
abbrev b_Pas_canBeMarked : ByteArray := prog_6_method_5_code
def y_Pas_canBeMarked : MethodName := ⟨"StreamTower$Passing", "canBeMarked", "()Z"⟩
abbrev b_Pas_hasMark : ByteArray := prog_6_method_6_code
def y_Pas_hasMark : MethodName := ⟨"StreamTower$Passing", "hasMark", "()Z"⟩
abbrev b_Pas_takeMark : ByteArray := prog_6_method_7_code
def y_Pas_takeMark : MethodName := ⟨"StreamTower$Passing", "takeMark", "(I)V"⟩
abbrev b_Pas_goBack : ByteArray := prog_6_method_8_code
def y_Pas_goBack : MethodName := ⟨"StreamTower$Passing", "goBack", "()V"⟩
abbrev b_Psh_init : ByteArray := prog_7_method_1_code
def y_Psh_init : MethodName := ⟨"StreamTower$Pushback", "<init>", "(LStreamTower$Stream;I)V"⟩
abbrev b_Psh_putBack : ByteArray := prog_7_method_2_code
def y_Psh_putBack : MethodName := ⟨"StreamTower$Pushback", "putBack", "(I)Z"⟩
abbrev b_Psh_answer : ByteArray := prog_7_method_3_code
def y_Psh_answer : MethodName := ⟨"StreamTower$Pushback", "answer", "(I[II)I"⟩
abbrev b_Psh_ready : ByteArray := prog_7_method_4_code
def y_Psh_ready : MethodName := ⟨"StreamTower$Pushback", "ready", "()I"⟩
abbrev b_Psh_state : ByteArray := prog_7_method_5_code
def y_Psh_state : MethodName := ⟨"StreamTower$Pushback", "state", "()I"⟩
abbrev b_Row_init : ByteArray := prog_8_method_1_code
def y_Row_init : MethodName := ⟨"StreamTower$Row", "<init>", "(I)V"⟩
abbrev b_Row_clear : ByteArray := prog_8_method_2_code
def y_Row_clear : MethodName := ⟨"StreamTower$Row", "clear", "()V"⟩
abbrev b_Row_add : ByteArray := prog_8_method_3_code
def y_Row_add : MethodName := ⟨"StreamTower$Row", "add", "(I)V"⟩
abbrev b_Row_addAll : ByteArray := prog_8_method_4_code
def y_Row_addAll : MethodName := ⟨"StreamTower$Row", "addAll", "([II)V"⟩
abbrev b_Row_get : ByteArray := prog_8_method_5_code
def y_Row_get : MethodName := ⟨"StreamTower$Row", "get", "(I)I"⟩
abbrev b_Src_init : ByteArray := prog_9_method_1_code
def y_Src_init : MethodName := ⟨"StreamTower$Source", "<init>", "()V"⟩
abbrev b_Src_hasRoomFor : ByteArray := prog_9_method_2_code
def y_Src_hasRoomFor : MethodName := ⟨"StreamTower$Source", "hasRoomFor", "(I)Z"⟩
abbrev b_Src_append : ByteArray := prog_9_method_3_code
def y_Src_append : MethodName := ⟨"StreamTower$Source", "append", "(I)V"⟩
abbrev b_Src_startPortion : ByteArray := prog_9_method_4_code
def y_Src_startPortion : MethodName := ⟨"StreamTower$Source", "startPortion", "()V"⟩
abbrev b_Src_mend : ByteArray := prog_9_method_5_code
def y_Src_mend : MethodName := ⟨"StreamTower$Source", "mend", "()V"⟩
abbrev b_Src_breakPlace : ByteArray := prog_9_method_6_code
def y_Src_breakPlace : MethodName := ⟨"StreamTower$Source", "breakPlace", "(I)Z"⟩
abbrev b_Src_answer : ByteArray := prog_9_method_7_code
def y_Src_answer : MethodName := ⟨"StreamTower$Source", "answer", "(I[II)I"⟩
abbrev b_Src_ready : ByteArray := prog_9_method_8_code
def y_Src_ready : MethodName := ⟨"StreamTower$Source", "ready", "()I"⟩
abbrev b_Src_state : ByteArray := prog_9_method_9_code
def y_Src_state : MethodName := ⟨"StreamTower$Source", "state", "()I"⟩
abbrev b_Str_init : ByteArray := prog_10_method_1_code
def y_Str_init : MethodName := ⟨"StreamTower$Stream", "<init>", "()V"⟩
abbrev b_Str_canBeMarked : ByteArray := prog_10_method_5_code
def y_Str_canBeMarked : MethodName := ⟨"StreamTower$Stream", "canBeMarked", "()Z"⟩
abbrev b_Str_hasMark : ByteArray := prog_10_method_6_code
def y_Str_hasMark : MethodName := ⟨"StreamTower$Stream", "hasMark", "()Z"⟩
abbrev b_Str_takeMark : ByteArray := prog_10_method_7_code
def y_Str_takeMark : MethodName := ⟨"StreamTower$Stream", "takeMark", "(I)V"⟩
abbrev b_Str_goBack : ByteArray := prog_10_method_8_code
def y_Str_goBack : MethodName := ⟨"StreamTower$Stream", "goBack", "()V"⟩
abbrev b_L_feed : ByteArray := method_3_code
def y_L_feed : MethodName := ⟨"StreamTowerLaw", "feed", "(LStreamTower;II[J)I"⟩
abbrev b_L_push : ByteArray := method_4_code
def y_L_push : MethodName := ⟨"StreamTowerLaw", "push", "(LStreamTower;II[J)I"⟩
abbrev b_L_read : ByteArray := method_5_code
def y_L_read : MethodName := ⟨"StreamTowerLaw", "read", "(LStreamTower;[J)I"⟩
abbrev b_L_some : ByteArray := method_6_code
def y_L_some : MethodName := ⟨"StreamTowerLaw", "some", "(LStreamTower;I[J)I"⟩
abbrev b_L_full : ByteArray := method_7_code
def y_L_full : MethodName := ⟨"StreamTowerLaw", "full", "(LStreamTower;I)I"⟩
abbrev b_L_skip : ByteArray := method_8_code
def y_L_skip : MethodName := ⟨"StreamTowerLaw", "skip", "(LStreamTower;I[J)I"⟩
abbrev b_L_number : ByteArray := method_9_code
def y_L_number : MethodName := ⟨"StreamTowerLaw", "number", "(LStreamTower;I[J)I"⟩
abbrev b_L_text : ByteArray := method_10_code
def y_L_text : MethodName := ⟨"StreamTowerLaw", "text", "(LStreamTower;[J)I"⟩
abbrev b_L_line : ByteArray := method_11_code
def y_L_line : MethodName := ⟨"StreamTowerLaw", "line", "(LStreamTower;[J)I"⟩
abbrev b_L_mark : ByteArray := method_12_code
def y_L_mark : MethodName := ⟨"StreamTowerLaw", "mark", "(LStreamTower;I)I"⟩
abbrev b_L_reset : ByteArray := method_13_code
def y_L_reset : MethodName := ⟨"StreamTowerLaw", "reset", "(LStreamTower;)I"⟩
abbrev b_L_unread : ByteArray := method_14_code
def y_L_unread : MethodName := ⟨"StreamTowerLaw", "unread", "(LStreamTower;I)I"⟩
end
section
/-! My layer. A heap is read as Hs_t: its size and, for each address, what cell the system keeps there. A method's bytecode is tied to a function on Hs_t: 'f args h = some (outcome, h2)' gives 'MX': the method, called on any machine that holds h, ends so, and the machine then holds h2. -/
abbrev Ce_t : Type := (Nat × List Value) ⊕ (Nat × (Nat → Int32)) ⊕ (Nat × (Nat → Int32)) ⊕ (Nat × (Nat → Int64)) ⊕ (Nat × (Nat → Option Nat))
abbrev ce_O (t : Nat) (fs : List Value) : Ce_t := .inl (t, fs)
abbrev ce_I (n : Nat) (f : Nat → Int32) : Ce_t := .inr (.inl (n, f))
abbrev ce_Z (n : Nat) (f : Nat → Int32) : Ce_t := .inr (.inr (.inl (n, f)))
abbrev ce_L (n : Nat) (f : Nat → Int64) : Ce_t := .inr (.inr (.inr (.inl (n, f))))
abbrev ce_R (n : Nat) (f : Nat → Option Nat) : Ce_t := .inr (.inr (.inr (.inr (n, f))))
abbrev Hs_t : Type := Nat × (Nat → Option Ce_t)
abbrev Rs_t : Type := Option (Outcome × Hs_t)
abbrev Gx_t : Type := va_G × ClassId × ClassId × ClassId × ClassId
def ex_E (G : Gx_t) (c : Ce_t) : va_E := match c with
  | .inl o => .inr o
  | .inr (.inl (n, f)) => .inl (G.2.1, n, .inl f)
  | .inr (.inr (.inl (n, f))) => .inl (G.2.2.1, n, .inl f)
  | .inr (.inr (.inr (.inl (n, f)))) => .inl (G.2.2.2.1, n, .inr (.inl f))
  | .inr (.inr (.inr (.inr (n, f)))) => .inl (G.2.2.2.2, n, .inr (.inr (.inr (.inr f))))
def ex_Ty (G : Gx_t) : List (ClassId × FieldType) := [(G.2.1, .int), (G.2.2.1, .boolean), (G.2.2.2.1, .long), (G.2.2.2.2, .object ex_El)]
def hp_S (h : Hs_t) (a : Nat) (c : Ce_t) : Hs_t := (h.1, fun q => if q = a then some c else h.2 q)
def hp_N (h : Hs_t) (c : Ce_t) : Hs_t := (h.1 + 1, fun q => if q = h.1 then some c else h.2 q)
def Rp_h (G : Gx_t) (H0 : Heap) (h : Hs_t) (H : Heap) : Prop := H.size = h.1 ∧ H0.size ≤ h.1 ∧ (∀ q : Nat, q < H0.size → H[q]? = H0[q]?) ∧ ∀ (a : Nat) (c : Ce_t), h.2 a = some c → H0.size ≤ a ∧ va_at G.1 cl_L (a, ex_E G c) H
theorem Rp_h.at1 {G : Gx_t} {H0 H : Heap} {h : Hs_t} {a : Nat} {c : Ce_t} (hR : Rp_h G H0 h H) (ha : h.2 a = some c) : va_P G.1 cl_L [(a, ex_E G c)] H := by
  intro k q hk
  cases k with
  | zero => cases hk; exact (hR.2.2.2 a c ha).2
  | succ k => simp at hk
theorem Rp_h.lt {G : Gx_t} {H0 H : Heap} {h : Hs_t} {a : Nat} {c : Ce_t} (hR : Rp_h G H0 h H) (ha : h.2 a = some c) : a < h.1 := by
  have h1 := (hR.2.2.2 a c ha).2.lt
  rw [hR.1] at h1
  exact h1
theorem Rp_h.set {G : Gx_t} {H0 H H1 : Heap} {h : Hs_t} {a : Nat} {c0 c : Ce_t} (hR : Rp_h G H0 h H) (ha : h.2 a = some c0) (he : va_at G.1 cl_L (a, ex_E G c) H1) (z : H1.size = H.size) (oq : ∀ q : Nat, q ≠ a → H1[q]? = H[q]?) : Rp_h G H0 (hp_S h a c) H1 := by
  obtain ⟨r1, r2, r3, r4⟩ := hR
  have hb := (r4 a c0 ha).1
  refine ⟨by rw [z]; exact r1, r2, fun q hq => by rw [oq q (by omega)]; exact r3 q hq, fun b d hb2 => ?_⟩
  unfold hp_S at hb2
  by_cases hq : b = a
  · subst hq
    simp at hb2
    subst hb2
    exact ⟨hb, he⟩
  · simp [hq] at hb2
    exact ⟨(r4 b d hb2).1, (r4 b d hb2).2.kept (oq b hq)⟩
theorem Rp_h.new {G : Gx_t} {H0 H H1 : Heap} {h : Hs_t} {c : Ce_t} (hR : Rp_h G H0 h H) (z : H1.size = H.size + 1) (oq : ∀ q : Nat, q < H.size → H1[q]? = H[q]?) (he : va_at G.1 cl_L (H.size, ex_E G c) H1) : Rp_h G H0 (hp_N h c) H1 := by
  obtain ⟨r1, r2, r3, r4⟩ := hR
  have hl : ∀ b d, h.2 b = some d → b < H.size := fun b d hb => (r4 b d hb).2.lt
  rw [← r1] at r2
  refine ⟨by rw [z, r1]; rfl, by show _ ≤ h.1 + 1; omega, fun q hq => by rw [oq q (by omega)]; exact r3 q hq, fun b d hb2 => ?_⟩
  unfold hp_N at hb2
  by_cases hq : b = h.1
  · subst hq
    simp at hb2
    subst hb2
    rw [← r1]
    exact ⟨r2, he⟩
  · simp [hq] at hb2
    exact ⟨(r4 b d hb2).1, (r4 b d hb2).2.kept (oq b (hl b d hb2))⟩
/-! The functions' words. -/
def in_R (i : Int32) (n : Nat) : Bool := !decide (i < 0) && decide (i.toNatClampNeg < n)
theorem in_R_in {i : Int32} {n : Nat} (h : in_R i n = true) : vp_in i n := by
  simp only [in_R, Bool.and_eq_true, Bool.not_eq_true', decide_eq_false_iff_not, decide_eq_true_eq] at h
  rintro (q | q)
  · exact h.1 q
  · exact absurd h.2 (by omega)
def fd_V (ts : List Nat) (k : Nat) (h : Hs_t) (a : Nat) : Option Value := match h.2 a with
  | some (.inl (t, fs)) => if ts.contains t then fs[k]? else none
  | _ => none
def fd_I (ts : List Nat) (k : Nat) (h : Hs_t) (a : Nat) : Option Int32 := match fd_V ts k h a with
  | some (.int x) => some x
  | _ => none
def fd_A (ts : List Nat) (k : Nat) (h : Hs_t) (a : Nat) : Option Nat := match fd_V ts k h a with
  | some (.ref x) => some x
  | _ => none
def pt_V (ts : List Nat) (k : Nat) (h : Hs_t) (a : Nat) (v : Value) : Option Hs_t := match h.2 a with
  | some (.inl (t, fs)) => if ts.contains t && decide (k < fs.length) then some (hp_S h a (ce_O t (fs.set k v))) else none
  | _ => none
def is_Z (x : Int32) : Bool := decide (x = 0) || decide (x = 1)
def pt_Z (ts : List Nat) (k : Nat) (h : Hs_t) (a : Nat) (x : Int32) : Option Hs_t := if is_Z x then pt_V ts k h a (.int x) else none
def ar_I (h : Hs_t) (a : Nat) (i : Int32) : Option Int32 := match h.2 a with
  | some (.inr (.inl (n, f))) => if in_R i n then some (f i.toNatClampNeg) else none
  | _ => none
def ar_Z (h : Hs_t) (a : Nat) (i : Int32) : Option Int32 := match h.2 a with
  | some (.inr (.inr (.inl (n, f)))) => if in_R i n then some (f i.toNatClampNeg) else none
  | _ => none
def ar_L (h : Hs_t) (a : Nat) (i : Int32) : Option Int64 := match h.2 a with
  | some (.inr (.inr (.inr (.inl (n, f))))) => if in_R i n then some (f i.toNatClampNeg) else none
  | _ => none
def ar_R (h : Hs_t) (a : Nat) (i : Int32) : Option (Option Nat) := match h.2 a with
  | some (.inr (.inr (.inr (.inr (n, f))))) => if in_R i n then some (f i.toNatClampNeg) else none
  | _ => none
def as_I (h : Hs_t) (a : Nat) (i x : Int32) : Option Hs_t := match h.2 a with
  | some (.inr (.inl (n, f))) => if in_R i n then some (hp_S h a (ce_I n (upd f i.toNatClampNeg x))) else none
  | _ => none
def as_Z (h : Hs_t) (a : Nat) (i x : Int32) : Option Hs_t := match h.2 a with
  | some (.inr (.inr (.inl (n, f)))) => if in_R i n && is_Z x then some (hp_S h a (ce_Z n (upd f i.toNatClampNeg x))) else none
  | _ => none
def as_L (h : Hs_t) (a : Nat) (i : Int32) (x : Int64) : Option Hs_t := match h.2 a with
  | some (.inr (.inr (.inr (.inl (n, f))))) => if in_R i n then some (hp_S h a (ce_L n (vp_updL f i.toNatClampNeg x))) else none
  | _ => none
def tg_O (h : Hs_t) (a : Nat) : Option Nat := match h.2 a with
  | some (.inl (t, _)) => some t
  | _ => none
def as_R (ts : List Nat) (h : Hs_t) (a : Nat) (i : Int32) (x : Nat) : Option Hs_t := match h.2 a with
  | some (.inr (.inr (.inr (.inr (n, f))))) => if in_R i n && (match tg_O h x with | some t => ts.contains t | none => false) then some (hp_S h a (ce_R n (va_up f i.toNatClampNeg (some x)))) else none
  | _ => none
def ln_A (h : Hs_t) (a : Nat) : Option Int32 := match h.2 a with
  | some (.inr (.inl (n, _))) => some (Int32.ofNat n)
  | some (.inr (.inr (.inl (n, _)))) => some (Int32.ofNat n)
  | some (.inr (.inr (.inr (.inl (n, _))))) => some (Int32.ofNat n)
  | some (.inr (.inr (.inr (.inr (n, _))))) => some (Int32.ofNat n)
  | _ => none
def cp_I (h : Hs_t) (a : Nat) (sp : Int32) (b : Nat) (dp n : Int32) : Option Hs_t := match h.2 a, h.2 b with
  | some (.inr (.inl (n0, f))), some (.inr (.inl (n1, g))) => if !decide (sp < 0) && !decide (dp < 0) && !decide (n < 0) && decide (sp.toNatClampNeg + n.toNatClampNeg ≤ n0) && decide (dp.toNatClampNeg + n.toNatClampNeg ≤ n1) then some (hp_S h b (ce_I n1 (va_cpy f g sp.toNatClampNeg dp.toNatClampNeg n.toNatClampNeg))) else none
  | _, _ => none
def bd_I (F : Rs_t) (k : Int32 → Hs_t → Rs_t) : Rs_t := match F with
  | some (.returned (some (.int v)), h) => k v h
  | some (.threw x, h) => some (.threw x, h)
  | _ => none
def bd_L (F : Rs_t) (k : Int64 → Hs_t → Rs_t) : Rs_t := match F with
  | some (.returned (some (.long v)), h) => k v h
  | some (.threw x, h) => some (.threw x, h)
  | _ => none
def bd_A (F : Rs_t) (k : Nat → Hs_t → Rs_t) : Rs_t := match F with
  | some (.returned (some (.ref v)), h) => k v h
  | some (.threw x, h) => some (.threw x, h)
  | _ => none
def bd_V (F : Rs_t) (k : Hs_t → Rs_t) : Rs_t := match F with
  | some (.returned none, h) => k h
  | some (.threw x, h) => some (.threw x, h)
  | _ => none
def re_I (v : Int32) (h : Hs_t) : Rs_t := some (.returned (some (.int v)), h)
def re_Z (v : Int32) (h : Hs_t) : Rs_t := if is_Z v then some (.returned (some (.int v)), h) else none
def re_L (v : Int64) (h : Hs_t) : Rs_t := some (.returned (some (.long v)), h)
def re_A (v : Nat) (h : Hs_t) : Rs_t := some (.returned (some (.ref v)), h)
def re_V (h : Hs_t) : Rs_t := some (.returned none, h)
def re_T (x : Nat) (h : Hs_t) : Rs_t := some (.threw x, h)
end
