section
-- ===== PART A: goes FIRST, ahead of the names: the tables' words, and 'selects' of the private methods out of them =====
/-- a private method of a class that the tables say can be made, by its rows of tables_1 -/
def lw_okq (q : MethodName × Nat) : Prop := (q.1.cls ≠ "java/lang/invoke/MethodHandle" ∧ q.1.cls ≠ "java/lang/invoke/VarHandle") ∧ Cond.instantiable q.1.cls q.2 ∈ tables_1 ∧ Cond.privateMethod q.1 ∈ tables_1 ∧ Cond.instanceMethod q.1 ∈ tables_1
theorem lw_p0 : lw_okq (⟨"StreamTower", "rowOf", "(Z)LStreamTower$Row;"⟩, 10) := ⟨⟨by decide +kernel, by decide +kernel⟩, List.mem_of_getElem? (i := 22) (by decide +kernel), List.mem_of_getElem? (i := 190) (by decide +kernel), List.mem_of_getElem? (i := 191) (by decide +kernel)⟩
theorem lw_p1 : lw_okq (⟨"java/lang/Throwable", "fillInStackTrace", "(I)Ljava/lang/Throwable;"⟩, 6) := ⟨⟨by decide +kernel, by decide +kernel⟩, List.mem_of_getElem? (i := 250) (by decide +kernel), List.mem_of_getElem? (i := 248) (by decide +kernel), List.mem_of_getElem? (i := 249) (by decide +kernel)⟩
theorem lw_p2 : lw_okq (⟨"StreamTower", "startReading", "()V"⟩, 10) := ⟨⟨by decide +kernel, by decide +kernel⟩, List.mem_of_getElem? (i := 22) (by decide +kernel), List.mem_of_getElem? (i := 428) (by decide +kernel), List.mem_of_getElem? (i := 429) (by decide +kernel)⟩
theorem lw_p3 : lw_okq (⟨"StreamTower", "refuseWhenClosed", "()V"⟩, 10) := ⟨⟨by decide +kernel, by decide +kernel⟩, List.mem_of_getElem? (i := 22) (by decide +kernel), List.mem_of_getElem? (i := 436) (by decide +kernel), List.mem_of_getElem? (i := 437) (by decide +kernel)⟩
theorem lw_p4 : lw_okq (⟨"StreamTower", "request", "(I)I"⟩, 10) := ⟨⟨by decide +kernel, by decide +kernel⟩, List.mem_of_getElem? (i := 22) (by decide +kernel), List.mem_of_getElem? (i := 440) (by decide +kernel), List.mem_of_getElem? (i := 441) (by decide +kernel)⟩
theorem lw_p5 : lw_okq (⟨"StreamTower$Lines", "countLineEnd", "(I)V"⟩, 5) := ⟨⟨by decide +kernel, by decide +kernel⟩, List.mem_of_getElem? (i := 401) (by decide +kernel), List.mem_of_getElem? (i := 471) (by decide +kernel), List.mem_of_getElem? (i := 472) (by decide +kernel)⟩
theorem lw_p6 : lw_okq (⟨"StreamTower$Buffer", "fill", "()I"⟩, 8) := ⟨⟨by decide +kernel, by decide +kernel⟩, List.mem_of_getElem? (i := 312) (by decide +kernel), List.mem_of_getElem? (i := 475) (by decide +kernel), List.mem_of_getElem? (i := 476) (by decide +kernel)⟩
theorem lw_p7 : lw_okq (⟨"StreamTower$Buffer", "forgetWhatNoMarkKeeps", "()V"⟩, 8) := ⟨⟨by decide +kernel, by decide +kernel⟩, List.mem_of_getElem? (i := 312) (by decide +kernel), List.mem_of_getElem? (i := 481) (by decide +kernel), List.mem_of_getElem? (i := 482) (by decide +kernel)⟩
theorem lw_p8 : lw_okq (⟨"StreamTower", "readAll", "(I)V"⟩, 10) := ⟨⟨by decide +kernel, by decide +kernel⟩, List.mem_of_getElem? (i := 22) (by decide +kernel), List.mem_of_getElem? (i := 514) (by decide +kernel), List.mem_of_getElem? (i := 515) (by decide +kernel)⟩
theorem lw_p9 : lw_okq (⟨"StreamTower", "numberInBag", "(I)J"⟩, 10) := ⟨⟨by decide +kernel, by decide +kernel⟩, List.mem_of_getElem? (i := 22) (by decide +kernel), List.mem_of_getElem? (i := 547) (by decide +kernel), List.mem_of_getElem? (i := 548) (by decide +kernel)⟩
theorem lw_p10 : lw_okq (⟨"StreamTower", "takeLetters", "()V"⟩, 10) := ⟨⟨by decide +kernel, by decide +kernel⟩, List.mem_of_getElem? (i := 22) (by decide +kernel), List.mem_of_getElem? (i := 567) (by decide +kernel), List.mem_of_getElem? (i := 568) (by decide +kernel)⟩
theorem lw_p11 : lw_okq (⟨"StreamTowerModel", "reads", "(I)Z"⟩, 28) := ⟨⟨by decide +kernel, by decide +kernel⟩, List.mem_of_getElem? (i := 707) (by decide +kernel), List.mem_of_getElem? (i := 822) (by decide +kernel), List.mem_of_getElem? (i := 823) (by decide +kernel)⟩
theorem lw_p12 : lw_okq (⟨"StreamTowerModel", "request", "(I)Z"⟩, 28) := ⟨⟨by decide +kernel, by decide +kernel⟩, List.mem_of_getElem? (i := 707) (by decide +kernel), List.mem_of_getElem? (i := 826) (by decide +kernel), List.mem_of_getElem? (i := 827) (by decide +kernel)⟩
theorem lw_p13 : lw_okq (⟨"StreamTowerModel", "answers", "(I)Z"⟩, 28) := ⟨⟨by decide +kernel, by decide +kernel⟩, List.mem_of_getElem? (i := 707) (by decide +kernel), List.mem_of_getElem? (i := 830) (by decide +kernel), List.mem_of_getElem? (i := 831) (by decide +kernel)⟩
theorem lw_p14 : lw_okq (⟨"StreamTowerModel", "toGive", "(I)I"⟩, 28) := ⟨⟨by decide +kernel, by decide +kernel⟩, List.mem_of_getElem? (i := 707) (by decide +kernel), List.mem_of_getElem? (i := 834) (by decide +kernel), List.mem_of_getElem? (i := 835) (by decide +kernel)⟩
theorem lw_p15 : lw_okq (⟨"StreamTowerModel", "give", "(II)V"⟩, 28) := ⟨⟨by decide +kernel, by decide +kernel⟩, List.mem_of_getElem? (i := 707) (by decide +kernel), List.mem_of_getElem? (i := 838) (by decide +kernel), List.mem_of_getElem? (i := 839) (by decide +kernel)⟩
def lw_privs_1 : List (MethodName × Nat) := [(⟨"StreamTower", "rowOf", "(Z)LStreamTower$Row;"⟩, 10), (⟨"java/lang/Throwable", "fillInStackTrace", "(I)Ljava/lang/Throwable;"⟩, 6), (⟨"StreamTower", "startReading", "()V"⟩, 10), (⟨"StreamTower", "refuseWhenClosed", "()V"⟩, 10), (⟨"StreamTower", "request", "(I)I"⟩, 10), (⟨"StreamTower$Lines", "countLineEnd", "(I)V"⟩, 5), (⟨"StreamTower$Buffer", "fill", "()I"⟩, 8), (⟨"StreamTower$Buffer", "forgetWhatNoMarkKeeps", "()V"⟩, 8), (⟨"StreamTower", "readAll", "(I)V"⟩, 10), (⟨"StreamTower", "numberInBag", "(I)J"⟩, 10), (⟨"StreamTower", "takeLetters", "()V"⟩, 10), (⟨"StreamTowerModel", "reads", "(I)Z"⟩, 28), (⟨"StreamTowerModel", "request", "(I)Z"⟩, 28), (⟨"StreamTowerModel", "answers", "(I)Z"⟩, 28), (⟨"StreamTowerModel", "toGive", "(I)I"⟩, 28), (⟨"StreamTowerModel", "give", "(II)V"⟩, 28)]
theorem lw_r1 : ∀ q ∈ lw_privs_1, lw_okq q := List.forall_mem_cons.mpr ⟨lw_p0, List.forall_mem_cons.mpr ⟨lw_p1, List.forall_mem_cons.mpr ⟨lw_p2, List.forall_mem_cons.mpr ⟨lw_p3, List.forall_mem_cons.mpr ⟨lw_p4, List.forall_mem_cons.mpr ⟨lw_p5, List.forall_mem_cons.mpr ⟨lw_p6, List.forall_mem_cons.mpr ⟨lw_p7, List.forall_mem_cons.mpr ⟨lw_p8, List.forall_mem_cons.mpr ⟨lw_p9, List.forall_mem_cons.mpr ⟨lw_p10, List.forall_mem_cons.mpr ⟨lw_p11, List.forall_mem_cons.mpr ⟨lw_p12, List.forall_mem_cons.mpr ⟨lw_p13, List.forall_mem_cons.mpr ⟨lw_p14, List.forall_mem_cons.mpr ⟨lw_p15, fun _ h => absurd h List.not_mem_nil⟩⟩⟩⟩⟩⟩⟩⟩⟩⟩⟩⟩⟩⟩⟩⟩
theorem lw_p16 : lw_okq (⟨"StreamTowerModel", "forget", "(II)V"⟩, 28) := ⟨⟨by decide +kernel, by decide +kernel⟩, List.mem_of_getElem? (i := 707) (by decide +kernel), List.mem_of_getElem? (i := 842) (by decide +kernel), List.mem_of_getElem? (i := 843) (by decide +kernel)⟩
theorem lw_p17 : lw_okq (⟨"StreamTowerModel", "below", "(I)I"⟩, 28) := ⟨⟨by decide +kernel, by decide +kernel⟩, List.mem_of_getElem? (i := 707) (by decide +kernel), List.mem_of_getElem? (i := 846) (by decide +kernel), List.mem_of_getElem? (i := 847) (by decide +kernel)⟩
theorem lw_p18 : lw_okq (⟨"StreamTowerModel", "through", "(I)Z"⟩, 28) := ⟨⟨by decide +kernel, by decide +kernel⟩, List.mem_of_getElem? (i := 707) (by decide +kernel), List.mem_of_getElem? (i := 850) (by decide +kernel), List.mem_of_getElem? (i := 851) (by decide +kernel)⟩
theorem lw_p19 : lw_okq (⟨"StreamTowerModel", "portionLeft", "()I"⟩, 28) := ⟨⟨by decide +kernel, by decide +kernel⟩, List.mem_of_getElem? (i := 707) (by decide +kernel), List.mem_of_getElem? (i := 854) (by decide +kernel), List.mem_of_getElem? (i := 855) (by decide +kernel)⟩
theorem lw_p20 : lw_okq (⟨"StreamTowerModel", "pass", "(I)V"⟩, 28) := ⟨⟨by decide +kernel, by decide +kernel⟩, List.mem_of_getElem? (i := 707) (by decide +kernel), List.mem_of_getElem? (i := 858) (by decide +kernel), List.mem_of_getElem? (i := 859) (by decide +kernel)⟩
theorem lw_p21 : lw_okq (⟨"StreamTowerModel", "countLines", "(I)V"⟩, 28) := ⟨⟨by decide +kernel, by decide +kernel⟩, List.mem_of_getElem? (i := 707) (by decide +kernel), List.mem_of_getElem? (i := 862) (by decide +kernel), List.mem_of_getElem? (i := 863) (by decide +kernel)⟩
theorem lw_p22 : lw_okq (⟨"StreamTowerModel", "putBag", "()V"⟩, 28) := ⟨⟨by decide +kernel, by decide +kernel⟩, List.mem_of_getElem? (i := 707) (by decide +kernel), List.mem_of_getElem? (i := 866) (by decide +kernel), List.mem_of_getElem? (i := 867) (by decide +kernel)⟩
theorem lw_p23 : lw_okq (⟨"StreamTowerModel", "fill", "(I)I"⟩, 28) := ⟨⟨by decide +kernel, by decide +kernel⟩, List.mem_of_getElem? (i := 707) (by decide +kernel), List.mem_of_getElem? (i := 878) (by decide +kernel), List.mem_of_getElem? (i := 879) (by decide +kernel)⟩
theorem lw_p24 : lw_okq (⟨"StreamTowerModel", "letterSize", "(I)I"⟩, 28) := ⟨⟨by decide +kernel, by decide +kernel⟩, List.mem_of_getElem? (i := 707) (by decide +kernel), List.mem_of_getElem? (i := 894) (by decide +kernel), List.mem_of_getElem? (i := 895) (by decide +kernel)⟩
theorem lw_p25 : lw_okq (⟨"StreamTowerModel", "further", "(I)Z"⟩, 28) := ⟨⟨by decide +kernel, by decide +kernel⟩, List.mem_of_getElem? (i := 707) (by decide +kernel), List.mem_of_getElem? (i := 898) (by decide +kernel), List.mem_of_getElem? (i := 899) (by decide +kernel)⟩
theorem lw_p26 : lw_okq (⟨"StreamTowerModel", "letterAt", "(II)I"⟩, 28) := ⟨⟨by decide +kernel, by decide +kernel⟩, List.mem_of_getElem? (i := 707) (by decide +kernel), List.mem_of_getElem? (i := 902) (by decide +kernel), List.mem_of_getElem? (i := 903) (by decide +kernel)⟩
theorem lw_p27 : lw_okq (⟨"StreamTowerModel", "bufferBelow", "()I"⟩, 28) := ⟨⟨by decide +kernel, by decide +kernel⟩, List.mem_of_getElem? (i := 707) (by decide +kernel), List.mem_of_getElem? (i := 914) (by decide +kernel), List.mem_of_getElem? (i := 915) (by decide +kernel)⟩
def lw_privs_2 : List (MethodName × Nat) := [(⟨"StreamTowerModel", "forget", "(II)V"⟩, 28), (⟨"StreamTowerModel", "below", "(I)I"⟩, 28), (⟨"StreamTowerModel", "through", "(I)Z"⟩, 28), (⟨"StreamTowerModel", "portionLeft", "()I"⟩, 28), (⟨"StreamTowerModel", "pass", "(I)V"⟩, 28), (⟨"StreamTowerModel", "countLines", "(I)V"⟩, 28), (⟨"StreamTowerModel", "putBag", "()V"⟩, 28), (⟨"StreamTowerModel", "fill", "(I)I"⟩, 28), (⟨"StreamTowerModel", "letterSize", "(I)I"⟩, 28), (⟨"StreamTowerModel", "further", "(I)Z"⟩, 28), (⟨"StreamTowerModel", "letterAt", "(II)I"⟩, 28), (⟨"StreamTowerModel", "bufferBelow", "()I"⟩, 28)]
theorem lw_r2 : ∀ q ∈ lw_privs_2, lw_okq q := List.forall_mem_cons.mpr ⟨lw_p16, List.forall_mem_cons.mpr ⟨lw_p17, List.forall_mem_cons.mpr ⟨lw_p18, List.forall_mem_cons.mpr ⟨lw_p19, List.forall_mem_cons.mpr ⟨lw_p20, List.forall_mem_cons.mpr ⟨lw_p21, List.forall_mem_cons.mpr ⟨lw_p22, List.forall_mem_cons.mpr ⟨lw_p23, List.forall_mem_cons.mpr ⟨lw_p24, List.forall_mem_cons.mpr ⟨lw_p25, List.forall_mem_cons.mpr ⟨lw_p26, List.forall_mem_cons.mpr ⟨lw_p27, fun _ h => absurd h List.not_mem_nil⟩⟩⟩⟩⟩⟩⟩⟩⟩⟩⟩⟩
def lw_privs : List (MethodName × Nat) := lw_privs_1 ++ (lw_privs_2)
def lw_tbl : List Cond := k2_sels lw_privs ++ tables_1
theorem lw_privs_ok : ∀ q ∈ lw_privs, lw_okq q := by
  show ∀ q ∈ lw_privs_1 ++ (lw_privs_2), lw_okq q
  exact List.forall_mem_append.mpr ⟨lw_r1, lw_r2⟩
section VB
variable {p : Program} {l : Launch} {e : Env} {R : Room} {s : State} {m : MethodId} {args : Array Value} {below : List Frame} {meth : Method} {c : Code} {H : Heap} {locs : List Loc} {cells slots : Nat}
theorem vx_frame {U : State} {k n : Nat} (h : s.sameButNew ({ U with vm := s.vm } : State) locs k n) : s.heap.size ≤ U.heap.size ∧ ∀ q : Nat, q < s.heap.size → (∀ z ∈ locs, z.base ≠ q) → U.heap[q]? = s.heap[q]? := by
  obtain ⟨-, h2, -, -, -, h6⟩ := h
  refine ⟨h2, fun q hq hz => ?_⟩
  obtain ⟨c9, e1, e2, e3, e4⟩ := h6 q _ (Array.getElem?_eq_getElem hq)
  have hs : c9.slots = (s.heap[q]).slots := Array.ext_getElem? fun i => e4 i fun hm => hz _ hm rfl
  have h9 : c9 = s.heap[q] := by
    rw [hs] at e2
    exact e2
  have e5 : U.heap[q]? = some c9 := e1
  rw [e5, h9, Array.getElem?_eq_getElem hq]
theorem vx_rebase {T : State} (X : Stand p l e R s m args below meth c T locs cells slots) {R' : Room} (hf : R'.frames ≤ R.frames) (hl : R'.locals ≤ R.locals) (hc : cells + R'.cells ≤ R.cells) (hs : slots + R'.slots ≤ R.slots) :
    Stand p l e R' ((T.setVm s.vm).setFrames (.invoking m args :: below)) m args below meth c T [] 0 0 := by
  have htop : (T.setVm s.vm).topJava?.isSome := X.here.top
  have hF : ((T.setVm s.vm).setFrames (.invoking m args :: below)).frames = .invoking m args :: below := State.frames_setFrames _ (State.cur_lt_of_top htop)
  obtain ⟨g₀, hg0⟩ := Option.isSome_iff_exists.mp htop
  obtain ⟨r, hr⟩ := State.topJava?_eq_some.mp hg0
  have hl9 : e.platform.stackLimits (T.setVm s.vm).me = e.platform.stackLimits s.me := X.limits
  have hb9 : (T.setVm s.vm).me.stackBytes = s.me.stackBytes := X.bytes
  refine ⟨X.admits, X.cas, X.clock, hF, ?_, X.hears, X.method, X.code, X.here, X.tail, X.warmed, ?_, ?_, ?_⟩
  · have h := X.room
    have hU : ((T.setVm s.vm).setFrames (.invoking m args :: below)).localsInUse = s.localsInUse := by
      rw [State.localsInUse_invoking hF (meth := meth) (c := c) X.method X.code, State.localsInUse_invoking X.frames X.method X.code]
    simp only [State.hasRoom, Bool.and_eq_true, decide_eq_true_eq] at h ⊢
    obtain ⟨⟨⟨⟨h1, h2, h3, h4, h5, h6⟩, h7⟩, h8⟩, h9⟩ := h
    rw [X.frames, List.length_cons] at h2 h3
    have q1 := X.heapSize
    have q2 := X.used
    simp only [hF, hU, List.length_cons, State.stackLimits_setFrames, State.stackBytes_setFrames, hl9, hb9]
    refine ⟨⟨⟨⟨by omega, by omega, by omega, by omega, by omega, h6⟩, ?_⟩, ?_⟩, X.book⟩
    · show T.heap.size + R'.cells ≤ e.platform.maxCells
      omega
    · show T.slotsUsed + R'.slots ≤ e.platform.maxSlots
      omega
  · rw [State.stackLimits_setFrames]; rfl
  · rw [State.stackBytes_setFrames]; rfl
  · refine ⟨?_, Nat.le_refl _, Nat.le_refl _, ?_, ?_, fun a c9 h9 => ⟨c9, h9, rfl, rfl, fun _ _ => rfl⟩⟩
    · obtain ⟨t, ht, -⟩ := State.frames_cons hr
      show T.setVm s.vm = { ((T.setVm s.vm).setFrames (.invoking m args :: below)).setFrames (T.setVm s.vm).frames with heap := T.heap, slotsUsed := T.slotsUsed }
      rw [State.setFrames_setFrames, State.setFrames_self ht]
      rfl
    · show T.slotsUsed = T.slotsUsed + ((T.heap.toList.drop T.heap.size).map (·.slots.size)).sum
      rw [List.drop_eq_nil_of_le (Nat.le_of_eq Array.length_toList)]
      rfl
    · show ((T.heap.toList.drop T.heap.size).map (·.slots.size)).sum ≤ 0
      rw [List.drop_eq_nil_of_le (Nat.le_of_eq Array.length_toList)]
      exact Nat.le_refl _
end VB
end
section
def ex_El : String := "StreamTower$Stream"
def T_0 : u_T := fun k => match k with
  | 0 => ("StreamTower", "source", "LStreamTower$Source;", true)
  | 1 => ("StreamTower", "layers", "[LStreamTower$Stream;", true)
  | 2 => ("StreamTower", "answered", "[I", true)
  | 3 => ("StreamTower", "bag", "LStreamTower$Row;", true)
  | 4 => ("StreamTower", "letters", "LStreamTower$Row;", true)
  | 5 => ("StreamTower", "top", "LStreamTower$Stream;", false)
  | 6 => ("StreamTower", "layerCount", "I", false)
  | 7 => ("StreamTower", "closed", "Z", false)
  | 8 => ("StreamTower", "leavesOutLineFeed", "Z", false)
  | _ => ("StreamTower", "leftOutLineFeedAtMark", "Z", false)
def T_1 : u_T := fun k => match k with
  | 0 => ("StreamTower$Row", "items", "[I", true)
  | _ => ("StreamTower$Row", "count", "I", false)
def T_2 : u_T := fun k => match k with
  | 0 => ("StreamTower$Source", "bytes", "[I", true)
  | 1 => ("StreamTower$Source", "startsPortion", "[Z", true)
  | 2 => ("StreamTower$Source", "broken", "[Z", true)
  | 3 => ("StreamTower$Source", "count", "I", false)
  | _ => ("StreamTower$Source", "taken", "I", false)
def T_3 : u_T := fun k => match k with
  | 0 => ("StreamTower$Buffer", "below", "LStreamTower$Stream;", true)
  | 1 => ("StreamTower$Buffer", "room", "I", true)
  | 2 => ("StreamTower$Buffer", "kept", "[I", true)
  | 3 => ("StreamTower$Buffer", "first", "I", false)
  | 4 => ("StreamTower$Buffer", "next", "I", false)
  | 5 => ("StreamTower$Buffer", "end", "I", false)
  | 6 => ("StreamTower$Buffer", "marked", "Z", false)
  | _ => ("StreamTower$Buffer", "markLimit", "I", false)
def T_4 : u_T := fun k => match k with
  | 0 => ("StreamTower$Pushback", "below", "LStreamTower$Stream;", true)
  | 1 => ("StreamTower$Pushback", "bytes", "[I", true)
  | _ => ("StreamTower$Pushback", "count", "I", false)
def T_5 : u_T := fun k => match k with
  | 0 => ("StreamTower$Passing", "below", "LStreamTower$Stream;", true)
  | 1 => ("StreamTower$Limit", "left", "I", false)
  | _ => ("StreamTower$Limit", "leftAtMark", "I", false)
def T_6 : u_T := fun k => match k with
  | 0 => ("StreamTower$Passing", "below", "LStreamTower$Stream;", true)
  | 1 => ("StreamTower$Code", "key", "I", true)
  | 2 => ("StreamTower$Code", "coded", "I", false)
  | _ => ("StreamTower$Code", "codedAtMark", "I", false)
def T_7 : u_T := fun k => match k with
  | 0 => ("StreamTower$Passing", "below", "LStreamTower$Stream;", true)
  | 1 => ("StreamTower$Lines", "lineEnds", "I", false)
  | 2 => ("StreamTower$Lines", "lineEndsAtMark", "I", false)
  | 3 => ("StreamTower$Lines", "lastWasReturn", "Z", false)
  | _ => ("StreamTower$Lines", "lastWasReturnAtMark", "Z", false)
def T_8 : u_T := fun k => match k with
  | 0 => ("StreamTowerModel", "code", "I", false)
  | 1 => ("StreamTowerModel", "source", "[I", true)
  | 2 => ("StreamTowerModel", "begins", "[Z", true)
  | 3 => ("StreamTowerModel", "broken", "[Z", true)
  | 4 => ("StreamTowerModel", "fed", "I", false)
  | 5 => ("StreamTowerModel", "taken", "I", false)
  | 6 => ("StreamTowerModel", "layers", "I", false)
  | 7 => ("StreamTowerModel", "kind", "[I", true)
  | 8 => ("StreamTowerModel", "sizes", "[I", true)
  | 9 => ("StreamTowerModel", "state", "[I", true)
  | 10 => ("StreamTowerModel", "remembered", "[I", true)
  | 11 => ("StreamTowerModel", "cr", "[Z", true)
  | 12 => ("StreamTowerModel", "crRemembered", "[Z", true)
  | 13 => ("StreamTowerModel", "bytes", "[I", true)
  | 14 => ("StreamTowerModel", "have", "[I", true)
  | 15 => ("StreamTowerModel", "given", "[I", true)
  | 16 => ("StreamTowerModel", "marked", "[Z", true)
  | 17 => ("StreamTowerModel", "limit", "[I", true)
  | 18 => ("StreamTowerModel", "asked", "[I", true)
  | 19 => ("StreamTowerModel", "answer", "[I", true)
  | 20 => ("StreamTowerModel", "count", "I", false)
  | 21 => ("StreamTowerModel", "closed", "Z", false)
  | 22 => ("StreamTowerModel", "leaves", "Z", false)
  | 23 => ("StreamTowerModel", "leavesMarked", "Z", false)
  | 24 => ("StreamTowerModel", "bag", "[I", true)
  | 25 => ("StreamTowerModel", "bagged", "I", false)
  | 26 => ("StreamTowerModel", "letters", "[I", true)
  | _ => ("StreamTowerModel", "lettered", "I", false)
def T_9 : u_T := fun k => match k with
  | _ => ("", "", "", false)
def T_10 : u_T := fun k => match k with
  | _ => ("", "", "", false)
def T_11 : u_T := fun k => match k with
  | _ => ("", "", "", false)
def T_12 : u_T := fun k => match k with
  | _ => ("", "", "", false)
abbrev cl_L : List vw_C := [("StreamTower", T_0, 10), ("StreamTower$Row", T_1, 2), ("StreamTower$Source", T_2, 5), ("StreamTower$Buffer", T_3, 8), ("StreamTower$Pushback", T_4, 3), ("StreamTower$Limit", T_5, 3), ("StreamTower$Code", T_6, 4), ("StreamTower$Lines", T_7, 5), ("StreamTowerModel", T_8, 28), ("java/lang/IllegalArgumentException", T_9, 0), ("java/lang/IllegalStateException", T_10, 0), ("java/util/NoSuchElementException", T_11, 0), ("java/lang/UnsupportedOperationException", T_12, 0)]
abbrev b_T_init : ByteArray := prog_1_method_1_code
def y_T_init : MethodName := ⟨"StreamTower", "<init>", "()V"⟩
abbrev b_T_feed : ByteArray := prog_1_method_2_code
def y_T_feed : MethodName := ⟨"StreamTower", "feed", "(II)I"⟩
abbrev b_T_portion : ByteArray := prog_1_method_3_code
def y_T_portion : MethodName := ⟨"StreamTower", "portion", "()V"⟩
abbrev b_T_breakAt : ByteArray := prog_1_method_4_code
def y_T_breakAt : MethodName := ⟨"StreamTower", "breakAt", "(I)Z"⟩
abbrev b_T_push : ByteArray := prog_1_method_5_code
def y_T_push : MethodName := ⟨"StreamTower", "push", "(II)I"⟩
abbrev b_T_read : ByteArray := prog_1_method_6_code
def y_T_read : MethodName := ⟨"StreamTower", "read", "()I"⟩
abbrev b_T_some : ByteArray := prog_1_method_7_code
def y_T_some : MethodName := ⟨"StreamTower", "some", "(I)I"⟩
abbrev b_T_full : ByteArray := prog_1_method_8_code
def y_T_full : MethodName := ⟨"StreamTower", "full", "(I)V"⟩
abbrev b_T_skip : ByteArray := prog_1_method_9_code
def y_T_skip : MethodName := ⟨"StreamTower", "skip", "(I)I"⟩
abbrev b_T_number : ByteArray := prog_1_method_10_code
def y_T_number : MethodName := ⟨"StreamTower", "number", "(I)J"⟩
abbrev b_T_text : ByteArray := prog_1_method_11_code
def y_T_text : MethodName := ⟨"StreamTower", "text", "()I"⟩
abbrev b_T_line : ByteArray := prog_1_method_12_code
def y_T_line : MethodName := ⟨"StreamTower", "line", "()I"⟩
abbrev b_T_mark : ByteArray := prog_1_method_13_code
def y_T_mark : MethodName := ⟨"StreamTower", "mark", "(I)V"⟩
abbrev b_T_reset : ByteArray := prog_1_method_14_code
def y_T_reset : MethodName := ⟨"StreamTower", "reset", "()V"⟩
abbrev b_T_unread : ByteArray := prog_1_method_15_code
def y_T_unread : MethodName := ⟨"StreamTower", "unread", "(I)V"⟩
abbrev b_T_available : ByteArray := prog_1_method_16_code
def y_T_available : MethodName := ⟨"StreamTower", "available", "()I"⟩
abbrev b_T_close : ByteArray := prog_1_method_17_code
def y_T_close : MethodName := ⟨"StreamTower", "close", "()V"⟩
abbrev b_T_about : ByteArray := prog_1_method_18_code
def y_T_about : MethodName := ⟨"StreamTower", "about", "(I)I"⟩
abbrev b_T_size : ByteArray := prog_1_method_19_code
def y_T_size : MethodName := ⟨"StreamTower", "size", "(Z)I"⟩
abbrev b_T_at : ByteArray := prog_1_method_20_code
def y_T_at : MethodName := ⟨"StreamTower", "at", "(IZ)I"⟩
abbrev b_T_rowOf : ByteArray := prog_1_method_21_code
def y_T_rowOf : MethodName := ⟨"StreamTower", "rowOf", "(Z)LStreamTower$Row;"⟩
abbrev b_T_isSizeOfKind : ByteArray := prog_1_method_22_code
def y_T_isSizeOfKind : MethodName := ⟨"StreamTower", "isSizeOfKind", "(II)Z"⟩
abbrev b_T_layerOver : ByteArray := prog_1_method_23_code
def y_T_layerOver : MethodName := ⟨"StreamTower", "layerOver", "(LStreamTower$Stream;II)LStreamTower$Stream;"⟩
abbrev b_T_refuseWhenClosed : ByteArray := prog_1_method_24_code
def y_T_refuseWhenClosed : MethodName := ⟨"StreamTower", "refuseWhenClosed", "()V"⟩
abbrev b_T_startReading : ByteArray := prog_1_method_25_code
def y_T_startReading : MethodName := ⟨"StreamTower", "startReading", "()V"⟩
abbrev b_T_request : ByteArray := prog_1_method_26_code
def y_T_request : MethodName := ⟨"StreamTower", "request", "(I)I"⟩
abbrev b_T_readAll : ByteArray := prog_1_method_27_code
def y_T_readAll : MethodName := ⟨"StreamTower", "readAll", "(I)V"⟩
abbrev b_T_numberInBag : ByteArray := prog_1_method_28_code
def y_T_numberInBag : MethodName := ⟨"StreamTower", "numberInBag", "(I)J"⟩
abbrev b_T_holdsJustLetters : ByteArray := prog_1_method_29_code
def y_T_holdsJustLetters : MethodName := ⟨"StreamTower", "holdsJustLetters", "(LStreamTower$Row;I)Z"⟩
abbrev b_T_takeLetters : ByteArray := prog_1_method_30_code
def y_T_takeLetters : MethodName := ⟨"StreamTower", "takeLetters", "()V"⟩
abbrev b_T_letterWidth : ByteArray := prog_1_method_31_code
def y_T_letterWidth : MethodName := ⟨"StreamTower", "letterWidth", "(LStreamTower$Row;I)I"⟩
abbrev b_T_widthByFirstByte : ByteArray := prog_1_method_32_code
def y_T_widthByFirstByte : MethodName := ⟨"StreamTower", "widthByFirstByte", "(I)I"⟩
abbrev b_T_letterOf : ByteArray := prog_1_method_33_code
def y_T_letterOf : MethodName := ⟨"StreamTower", "letterOf", "(LStreamTower$Row;II)I"⟩
abbrev b_M_init : ByteArray := prog_12_method_1_code
def y_M_init : MethodName := ⟨"StreamTowerModel", "<init>", "()V"⟩
abbrev b_M_thrown : ByteArray := prog_12_method_2_code
def y_M_thrown : MethodName := ⟨"StreamTowerModel", "thrown", "()I"⟩
abbrev b_M_feed : ByteArray := prog_12_method_3_code
def y_M_feed : MethodName := ⟨"StreamTowerModel", "feed", "(II)I"⟩
abbrev b_M_portion : ByteArray := prog_12_method_4_code
def y_M_portion : MethodName := ⟨"StreamTowerModel", "portion", "()V"⟩
abbrev b_M_breakAt : ByteArray := prog_12_method_5_code
def y_M_breakAt : MethodName := ⟨"StreamTowerModel", "breakAt", "(I)Z"⟩
abbrev b_M_portionLeft : ByteArray := prog_12_method_6_code
def y_M_portionLeft : MethodName := ⟨"StreamTowerModel", "portionLeft", "()I"⟩
abbrev b_M_push : ByteArray := prog_12_method_7_code
def y_M_push : MethodName := ⟨"StreamTowerModel", "push", "(II)I"⟩
abbrev b_M_toGive : ByteArray := prog_12_method_8_code
def y_M_toGive : MethodName := ⟨"StreamTowerModel", "toGive", "(I)I"⟩
abbrev b_M_forget : ByteArray := prog_12_method_9_code
def y_M_forget : MethodName := ⟨"StreamTowerModel", "forget", "(II)V"⟩
abbrev b_M_give : ByteArray := prog_12_method_10_code
def y_M_give : MethodName := ⟨"StreamTowerModel", "give", "(II)V"⟩
abbrev b_M_answers : ByteArray := prog_12_method_11_code
def y_M_answers : MethodName := ⟨"StreamTowerModel", "answers", "(I)Z"⟩
abbrev b_M_through : ByteArray := prog_12_method_12_code
def y_M_through : MethodName := ⟨"StreamTowerModel", "through", "(I)Z"⟩
abbrev b_M_below : ByteArray := prog_12_method_13_code
def y_M_below : MethodName := ⟨"StreamTowerModel", "below", "(I)I"⟩
abbrev b_M_countLines : ByteArray := prog_12_method_14_code
def y_M_countLines : MethodName := ⟨"StreamTowerModel", "countLines", "(I)V"⟩
abbrev b_M_pass : ByteArray := prog_12_method_15_code
def y_M_pass : MethodName := ⟨"StreamTowerModel", "pass", "(I)V"⟩
abbrev b_M_request : ByteArray := prog_12_method_16_code
def y_M_request : MethodName := ⟨"StreamTowerModel", "request", "(I)Z"⟩
abbrev b_M_reads : ByteArray := prog_12_method_17_code
def y_M_reads : MethodName := ⟨"StreamTowerModel", "reads", "(I)Z"⟩
abbrev b_M_putBag : ByteArray := prog_12_method_18_code
def y_M_putBag : MethodName := ⟨"StreamTowerModel", "putBag", "()V"⟩
abbrev b_M_read : ByteArray := prog_12_method_19_code
def y_M_read : MethodName := ⟨"StreamTowerModel", "read", "()I"⟩
abbrev b_M_some : ByteArray := prog_12_method_20_code
def y_M_some : MethodName := ⟨"StreamTowerModel", "some", "(I)I"⟩
abbrev b_M_fill : ByteArray := prog_12_method_21_code
def y_M_fill : MethodName := ⟨"StreamTowerModel", "fill", "(I)I"⟩
abbrev b_M_full : ByteArray := prog_12_method_22_code
def y_M_full : MethodName := ⟨"StreamTowerModel", "full", "(I)V"⟩
abbrev b_M_skip : ByteArray := prog_12_method_23_code
def y_M_skip : MethodName := ⟨"StreamTowerModel", "skip", "(I)I"⟩
abbrev b_M_number : ByteArray := prog_12_method_24_code
def y_M_number : MethodName := ⟨"StreamTowerModel", "number", "(I)J"⟩
abbrev b_M_further : ByteArray := prog_12_method_25_code
def y_M_further : MethodName := ⟨"StreamTowerModel", "further", "(I)Z"⟩
abbrev b_M_letterSize : ByteArray := prog_12_method_26_code
def y_M_letterSize : MethodName := ⟨"StreamTowerModel", "letterSize", "(I)I"⟩
abbrev b_M_letterAt : ByteArray := prog_12_method_27_code
def y_M_letterAt : MethodName := ⟨"StreamTowerModel", "letterAt", "(II)I"⟩
abbrev b_M_text : ByteArray := prog_12_method_28_code
def y_M_text : MethodName := ⟨"StreamTowerModel", "text", "()I"⟩
abbrev b_M_line : ByteArray := prog_12_method_29_code
def y_M_line : MethodName := ⟨"StreamTowerModel", "line", "()I"⟩
abbrev b_M_bufferBelow : ByteArray := prog_12_method_30_code
def y_M_bufferBelow : MethodName := ⟨"StreamTowerModel", "bufferBelow", "()I"⟩
abbrev b_M_mark : ByteArray := prog_12_method_31_code
def y_M_mark : MethodName := ⟨"StreamTowerModel", "mark", "(I)V"⟩
abbrev b_M_reset : ByteArray := prog_12_method_32_code
def y_M_reset : MethodName := ⟨"StreamTowerModel", "reset", "()V"⟩
abbrev b_M_unread : ByteArray := prog_12_method_33_code
def y_M_unread : MethodName := ⟨"StreamTowerModel", "unread", "(I)V"⟩
abbrev b_M_available : ByteArray := prog_12_method_34_code
def y_M_available : MethodName := ⟨"StreamTowerModel", "available", "()I"⟩
abbrev b_M_close : ByteArray := prog_12_method_35_code
def y_M_close : MethodName := ⟨"StreamTowerModel", "close", "()V"⟩
abbrev b_M_about : ByteArray := prog_12_method_36_code
def y_M_about : MethodName := ⟨"StreamTowerModel", "about", "(I)I"⟩
abbrev b_M_size : ByteArray := prog_12_method_37_code
def y_M_size : MethodName := ⟨"StreamTowerModel", "size", "(Z)I"⟩
abbrev b_M_at : ByteArray := prog_12_method_38_code
def y_M_at : MethodName := ⟨"StreamTowerModel", "at", "(IZ)I"⟩
abbrev b_Buf_init : ByteArray := prog_2_method_1_code
def y_Buf_init : MethodName := ⟨"StreamTower$Buffer", "<init>", "(LStreamTower$Stream;I)V"⟩
abbrev b_Buf_answer : ByteArray := prog_2_method_2_code
def y_Buf_answer : MethodName := ⟨"StreamTower$Buffer", "answer", "(I[II)I"⟩
abbrev b_Buf_fill : ByteArray := prog_2_method_3_code
def y_Buf_fill : MethodName := ⟨"StreamTower$Buffer", "fill", "()I"⟩
abbrev b_Buf_forgetWhatNoMarkKeeps : ByteArray := prog_2_method_4_code
def y_Buf_forgetWhatNoMarkKeeps : MethodName := ⟨"StreamTower$Buffer", "forgetWhatNoMarkKeeps", "()V"⟩
abbrev b_Buf_ready : ByteArray := prog_2_method_5_code
def y_Buf_ready : MethodName := ⟨"StreamTower$Buffer", "ready", "()I"⟩
abbrev b_Buf_state : ByteArray := prog_2_method_6_code
def y_Buf_state : MethodName := ⟨"StreamTower$Buffer", "state", "()I"⟩
abbrev b_Buf_canBeMarked : ByteArray := prog_2_method_7_code
def y_Buf_canBeMarked : MethodName := ⟨"StreamTower$Buffer", "canBeMarked", "()Z"⟩
abbrev b_Buf_hasMark : ByteArray := prog_2_method_8_code
def y_Buf_hasMark : MethodName := ⟨"StreamTower$Buffer", "hasMark", "()Z"⟩
abbrev b_Buf_takeMark : ByteArray := prog_2_method_9_code
def y_Buf_takeMark : MethodName := ⟨"StreamTower$Buffer", "takeMark", "(I)V"⟩
abbrev b_Buf_goBack : ByteArray := prog_2_method_10_code
def y_Buf_goBack : MethodName := ⟨"StreamTower$Buffer", "goBack", "()V"⟩
abbrev b_Cod_init : ByteArray := prog_3_method_1_code
def y_Cod_init : MethodName := ⟨"StreamTower$Code", "<init>", "(LStreamTower$Stream;I)V"⟩
abbrev b_Cod_answer : ByteArray := prog_3_method_2_code
def y_Cod_answer : MethodName := ⟨"StreamTower$Code", "answer", "(I[II)I"⟩
abbrev b_Cod_state : ByteArray := prog_3_method_3_code
def y_Cod_state : MethodName := ⟨"StreamTower$Code", "state", "()I"⟩
abbrev b_Cod_remember : ByteArray := prog_3_method_4_code
def y_Cod_remember : MethodName := ⟨"StreamTower$Code", "remember", "()V"⟩
abbrev b_Cod_recall : ByteArray := prog_3_method_5_code
def y_Cod_recall : MethodName := ⟨"StreamTower$Code", "recall", "()V"⟩
abbrev b_Lim_init : ByteArray := prog_4_method_1_code
def y_Lim_init : MethodName := ⟨"StreamTower$Limit", "<init>", "(LStreamTower$Stream;I)V"⟩
abbrev b_Lim_answer : ByteArray := prog_4_method_2_code
def y_Lim_answer : MethodName := ⟨"StreamTower$Limit", "answer", "(I[II)I"⟩
abbrev b_Lim_ready : ByteArray := prog_4_method_3_code
def y_Lim_ready : MethodName := ⟨"StreamTower$Limit", "ready", "()I"⟩
abbrev b_Lim_state : ByteArray := prog_4_method_4_code
def y_Lim_state : MethodName := ⟨"StreamTower$Limit", "state", "()I"⟩
abbrev b_Lim_remember : ByteArray := prog_4_method_5_code
def y_Lim_remember : MethodName := ⟨"StreamTower$Limit", "remember", "()V"⟩
abbrev b_Lim_recall : ByteArray := prog_4_method_6_code
def y_Lim_recall : MethodName := ⟨"StreamTower$Limit", "recall", "()V"⟩
abbrev b_Lin_init : ByteArray := prog_5_method_1_code
def y_Lin_init : MethodName := ⟨"StreamTower$Lines", "<init>", "(LStreamTower$Stream;)V"⟩
abbrev b_Lin_answer : ByteArray := prog_5_method_2_code
def y_Lin_answer : MethodName := ⟨"StreamTower$Lines", "answer", "(I[II)I"⟩
abbrev b_Lin_countLineEnd : ByteArray := prog_5_method_3_code
def y_Lin_countLineEnd : MethodName := ⟨"StreamTower$Lines", "countLineEnd", "(I)V"⟩
abbrev b_Lin_state : ByteArray := prog_5_method_4_code
def y_Lin_state : MethodName := ⟨"StreamTower$Lines", "state", "()I"⟩
abbrev b_Lin_remember : ByteArray := prog_5_method_5_code
def y_Lin_remember : MethodName := ⟨"StreamTower$Lines", "remember", "()V"⟩
abbrev b_Lin_recall : ByteArray := prog_5_method_6_code
def y_Lin_recall : MethodName := ⟨"StreamTower$Lines", "recall", "()V"⟩
abbrev b_Pas_init : ByteArray := prog_6_method_1_code
def y_Pas_init : MethodName := ⟨"StreamTower$Passing", "<init>", "(LStreamTower$Stream;)V"⟩
abbrev b_Pas_ready : ByteArray := prog_6_method_4_code
def y_Pas_ready : MethodName := ⟨"StreamTower$Passing", "ready", "()I"⟩
abbrev b_Pas_canBeMarked : ByteArray := prog_6_method_5_code
def y_Pas_canBeMarked : MethodName := ⟨"StreamTower$Passing", "canBeMarked", "()Z"⟩
abbrev b_Pas_hasMark : ByteArray := prog_6_method_6_code
def y_Pas_hasMark : MethodName := ⟨"StreamTower$Passing", "hasMark", "()Z"⟩
abbrev b_Pas_takeMark : ByteArray := prog_6_method_7_code
def y_Pas_takeMark : MethodName := ⟨"StreamTower$Passing", "takeMark", "(I)V"⟩
abbrev b_Pas_goBack : ByteArray := prog_6_method_8_code
def y_Pas_goBack : MethodName := ⟨"StreamTower$Passing", "goBack", "()V"⟩
abbrev b_Psh_init : ByteArray := prog_7_method_1_code
def y_Psh_init : MethodName := ⟨"StreamTower$Pushback", "<init>", "(LStreamTower$Stream;I)V"⟩
abbrev b_Psh_putBack : ByteArray := prog_7_method_2_code
def y_Psh_putBack : MethodName := ⟨"StreamTower$Pushback", "putBack", "(I)Z"⟩
abbrev b_Psh_answer : ByteArray := prog_7_method_3_code
def y_Psh_answer : MethodName := ⟨"StreamTower$Pushback", "answer", "(I[II)I"⟩
abbrev b_Psh_ready : ByteArray := prog_7_method_4_code
def y_Psh_ready : MethodName := ⟨"StreamTower$Pushback", "ready", "()I"⟩
abbrev b_Psh_state : ByteArray := prog_7_method_5_code
def y_Psh_state : MethodName := ⟨"StreamTower$Pushback", "state", "()I"⟩
abbrev b_Row_init : ByteArray := prog_8_method_1_code
def y_Row_init : MethodName := ⟨"StreamTower$Row", "<init>", "(I)V"⟩
abbrev b_Row_clear : ByteArray := prog_8_method_2_code
def y_Row_clear : MethodName := ⟨"StreamTower$Row", "clear", "()V"⟩
abbrev b_Row_add : ByteArray := prog_8_method_3_code
def y_Row_add : MethodName := ⟨"StreamTower$Row", "add", "(I)V"⟩
abbrev b_Row_addAll : ByteArray := prog_8_method_4_code
def y_Row_addAll : MethodName := ⟨"StreamTower$Row", "addAll", "([II)V"⟩
abbrev b_Row_get : ByteArray := prog_8_method_5_code
def y_Row_get : MethodName := ⟨"StreamTower$Row", "get", "(I)I"⟩
abbrev b_Src_init : ByteArray := prog_9_method_1_code
def y_Src_init : MethodName := ⟨"StreamTower$Source", "<init>", "()V"⟩
abbrev b_Src_hasRoomFor : ByteArray := prog_9_method_2_code
def y_Src_hasRoomFor : MethodName := ⟨"StreamTower$Source", "hasRoomFor", "(I)Z"⟩
abbrev b_Src_append : ByteArray := prog_9_method_3_code
def y_Src_append : MethodName := ⟨"StreamTower$Source", "append", "(I)V"⟩
abbrev b_Src_startPortion : ByteArray := prog_9_method_4_code
def y_Src_startPortion : MethodName := ⟨"StreamTower$Source", "startPortion", "()V"⟩
abbrev b_Src_mend : ByteArray := prog_9_method_5_code
def y_Src_mend : MethodName := ⟨"StreamTower$Source", "mend", "()V"⟩
abbrev b_Src_breakPlace : ByteArray := prog_9_method_6_code
def y_Src_breakPlace : MethodName := ⟨"StreamTower$Source", "breakPlace", "(I)Z"⟩
abbrev b_Src_answer : ByteArray := prog_9_method_7_code
def y_Src_answer : MethodName := ⟨"StreamTower$Source", "answer", "(I[II)I"⟩
abbrev b_Src_ready : ByteArray := prog_9_method_8_code
def y_Src_ready : MethodName := ⟨"StreamTower$Source", "ready", "()I"⟩
abbrev b_Src_state : ByteArray := prog_9_method_9_code
def y_Src_state : MethodName := ⟨"StreamTower$Source", "state", "()I"⟩
abbrev b_Str_init : ByteArray := prog_10_method_1_code
def y_Str_init : MethodName := ⟨"StreamTower$Stream", "<init>", "()V"⟩
abbrev b_Str_canBeMarked : ByteArray := prog_10_method_5_code
def y_Str_canBeMarked : MethodName := ⟨"StreamTower$Stream", "canBeMarked", "()Z"⟩
abbrev b_Str_hasMark : ByteArray := prog_10_method_6_code
def y_Str_hasMark : MethodName := ⟨"StreamTower$Stream", "hasMark", "()Z"⟩
abbrev b_Str_takeMark : ByteArray := prog_10_method_7_code
def y_Str_takeMark : MethodName := ⟨"StreamTower$Stream", "takeMark", "(I)V"⟩
abbrev b_Str_goBack : ByteArray := prog_10_method_8_code
def y_Str_goBack : MethodName := ⟨"StreamTower$Stream", "goBack", "()V"⟩
abbrev b_L_feed : ByteArray := method_3_code
def y_L_feed : MethodName := ⟨"StreamTowerLaw", "feed", "(LStreamTower;II[J)I"⟩
abbrev b_L_push : ByteArray := method_4_code
def y_L_push : MethodName := ⟨"StreamTowerLaw", "push", "(LStreamTower;II[J)I"⟩
abbrev b_L_read : ByteArray := method_5_code
def y_L_read : MethodName := ⟨"StreamTowerLaw", "read", "(LStreamTower;[J)I"⟩
abbrev b_L_some : ByteArray := method_6_code
def y_L_some : MethodName := ⟨"StreamTowerLaw", "some", "(LStreamTower;I[J)I"⟩
abbrev b_L_full : ByteArray := method_7_code
def y_L_full : MethodName := ⟨"StreamTowerLaw", "full", "(LStreamTower;I)I"⟩
abbrev b_L_skip : ByteArray := method_8_code
def y_L_skip : MethodName := ⟨"StreamTowerLaw", "skip", "(LStreamTower;I[J)I"⟩
abbrev b_L_number : ByteArray := method_9_code
def y_L_number : MethodName := ⟨"StreamTowerLaw", "number", "(LStreamTower;I[J)I"⟩
abbrev b_L_text : ByteArray := method_10_code
def y_L_text : MethodName := ⟨"StreamTowerLaw", "text", "(LStreamTower;[J)I"⟩
abbrev b_L_line : ByteArray := method_11_code
def y_L_line : MethodName := ⟨"StreamTowerLaw", "line", "(LStreamTower;[J)I"⟩
abbrev b_L_mark : ByteArray := method_12_code
def y_L_mark : MethodName := ⟨"StreamTowerLaw", "mark", "(LStreamTower;I)I"⟩
abbrev b_L_reset : ByteArray := method_13_code
def y_L_reset : MethodName := ⟨"StreamTowerLaw", "reset", "(LStreamTower;)I"⟩
abbrev b_L_unread : ByteArray := method_14_code
def y_L_unread : MethodName := ⟨"StreamTowerLaw", "unread", "(LStreamTower;I)I"⟩
end
section
/-! My layer. A heap is read as Hs_t: its size and, for each address, what cell the system keeps there. A method's bytecode is tied to a function on Hs_t: 'f args h = some (outcome, h2)' gives 'MX': the method, called on any machine that holds h, ends so, and the machine then holds h2. -/
abbrev Ce_t : Type := (Nat × List Value) ⊕ (Nat × (Nat → Int32)) ⊕ (Nat × (Nat → Int32)) ⊕ (Nat × (Nat → Int64)) ⊕ (Nat × (Nat → Option Nat))
abbrev ce_O (t : Nat) (fs : List Value) : Ce_t := .inl (t, fs)
abbrev ce_I (n : Nat) (f : Nat → Int32) : Ce_t := .inr (.inl (n, f))
abbrev ce_Z (n : Nat) (f : Nat → Int32) : Ce_t := .inr (.inr (.inl (n, f)))
abbrev ce_L (n : Nat) (f : Nat → Int64) : Ce_t := .inr (.inr (.inr (.inl (n, f))))
abbrev ce_R (n : Nat) (f : Nat → Option Nat) : Ce_t := .inr (.inr (.inr (.inr (n, f))))
abbrev Hs_t : Type := Nat × (Nat → Option Ce_t)
abbrev Rs_t : Type := Option (Outcome × Hs_t)
abbrev Gx_t : Type := va_G × ClassId × ClassId × ClassId × ClassId
def ex_E (G : Gx_t) (c : Ce_t) : va_E := match c with
  | .inl o => .inr o
  | .inr (.inl (n, f)) => .inl (G.2.1, n, .inl f)
  | .inr (.inr (.inl (n, f))) => .inl (G.2.2.1, n, .inl f)
  | .inr (.inr (.inr (.inl (n, f)))) => .inl (G.2.2.2.1, n, .inr (.inl f))
  | .inr (.inr (.inr (.inr (n, f)))) => .inl (G.2.2.2.2, n, .inr (.inr (.inr (.inr f))))
def ex_Ty (G : Gx_t) : List (ClassId × FieldType) := [(G.2.1, .int), (G.2.2.1, .boolean), (G.2.2.2.1, .long), (G.2.2.2.2, .object ex_El)]
def hp_S (h : Hs_t) (a : Nat) (c : Ce_t) : Hs_t := (h.1, fun q => if q = a then some c else h.2 q)
def hp_N (h : Hs_t) (c : Ce_t) : Hs_t := (h.1 + 1, fun q => if q = h.1 then some c else h.2 q)
def Rp_h (G : Gx_t) (H0 : Heap) (h : Hs_t) (H : Heap) : Prop := H.size = h.1 ∧ H0.size ≤ h.1 ∧ (∀ q : Nat, q < H0.size → H[q]? = H0[q]?) ∧ ∀ (a : Nat) (c : Ce_t), h.2 a = some c → H0.size ≤ a ∧ va_at G.1 cl_L (a, ex_E G c) H
theorem Rp_h.at1 {G : Gx_t} {H0 H : Heap} {h : Hs_t} {a : Nat} {c : Ce_t} (hR : Rp_h G H0 h H) (ha : h.2 a = some c) : va_P G.1 cl_L [(a, ex_E G c)] H := by
  intro k q hk
  cases k with
  | zero => cases hk; exact (hR.2.2.2 a c ha).2
  | succ k => simp at hk
theorem Rp_h.lt {G : Gx_t} {H0 H : Heap} {h : Hs_t} {a : Nat} {c : Ce_t} (hR : Rp_h G H0 h H) (ha : h.2 a = some c) : a < h.1 := by
  have h1 := (hR.2.2.2 a c ha).2.lt
  rw [hR.1] at h1
  exact h1
theorem Rp_h.set {G : Gx_t} {H0 H H1 : Heap} {h : Hs_t} {a : Nat} {c0 c : Ce_t} (hR : Rp_h G H0 h H) (ha : h.2 a = some c0) (he : va_at G.1 cl_L (a, ex_E G c) H1) (z : H1.size = H.size) (oq : ∀ q : Nat, q ≠ a → H1[q]? = H[q]?) : Rp_h G H0 (hp_S h a c) H1 := by
  obtain ⟨r1, r2, r3, r4⟩ := hR
  have hb := (r4 a c0 ha).1
  refine ⟨by rw [z]; exact r1, r2, fun q hq => by rw [oq q (by omega)]; exact r3 q hq, fun b d hb2 => ?_⟩
  unfold hp_S at hb2
  by_cases hq : b = a
  · subst hq
    simp at hb2
    subst hb2
    exact ⟨hb, he⟩
  · simp [hq] at hb2
    exact ⟨(r4 b d hb2).1, (r4 b d hb2).2.kept (oq b hq)⟩
theorem Rp_h.new {G : Gx_t} {H0 H H1 : Heap} {h : Hs_t} {c : Ce_t} (hR : Rp_h G H0 h H) (z : H1.size = H.size + 1) (oq : ∀ q : Nat, q < H.size → H1[q]? = H[q]?) (he : va_at G.1 cl_L (H.size, ex_E G c) H1) : Rp_h G H0 (hp_N h c) H1 := by
  obtain ⟨r1, r2, r3, r4⟩ := hR
  have hl : ∀ b d, h.2 b = some d → b < H.size := fun b d hb => (r4 b d hb).2.lt
  rw [← r1] at r2
  refine ⟨by rw [z, r1]; rfl, by show _ ≤ h.1 + 1; omega, fun q hq => by rw [oq q (by omega)]; exact r3 q hq, fun b d hb2 => ?_⟩
  unfold hp_N at hb2
  by_cases hq : b = h.1
  · subst hq
    simp at hb2
    subst hb2
    rw [← r1]
    exact ⟨r2, he⟩
  · simp [hq] at hb2
    exact ⟨(r4 b d hb2).1, (r4 b d hb2).2.kept (oq b (hl b d hb2))⟩
/-! The functions' words. -/
def in_R (i : Int32) (n : Nat) : Bool := !decide (i < 0) && decide (i.toNatClampNeg < n)
theorem in_R_in {i : Int32} {n : Nat} (h : in_R i n = true) : vp_in i n := by
  simp only [in_R, Bool.and_eq_true, Bool.not_eq_true', decide_eq_false_iff_not, decide_eq_true_eq] at h
  rintro (q | q)
  · exact h.1 q
  · exact absurd h.2 (by omega)
def fd_V (ts : List Nat) (k : Nat) (h : Hs_t) (a : Nat) : Option Value := match h.2 a with
  | some (.inl (t, fs)) => if ts.contains t then fs[k]? else none
  | _ => none
def fd_I (ts : List Nat) (k : Nat) (h : Hs_t) (a : Nat) : Option Int32 := match fd_V ts k h a with
  | some (.int x) => some x
  | _ => none
def fd_A (ts : List Nat) (k : Nat) (h : Hs_t) (a : Nat) : Option Nat := match fd_V ts k h a with
  | some (.ref x) => some x
  | _ => none
def pt_V (ts : List Nat) (k : Nat) (h : Hs_t) (a : Nat) (v : Value) : Option Hs_t := match h.2 a with
  | some (.inl (t, fs)) => if ts.contains t && decide (k < fs.length) then some (hp_S h a (ce_O t (fs.set k v))) else none
  | _ => none
def is_Z (x : Int32) : Bool := decide (x = 0) || decide (x = 1)
def pt_Z (ts : List Nat) (k : Nat) (h : Hs_t) (a : Nat) (x : Int32) : Option Hs_t := if is_Z x then pt_V ts k h a (.int x) else none
def ar_I (h : Hs_t) (a : Nat) (i : Int32) : Option Int32 := match h.2 a with
  | some (.inr (.inl (n, f))) => if in_R i n then some (f i.toNatClampNeg) else none
  | _ => none
def ar_Z (h : Hs_t) (a : Nat) (i : Int32) : Option Int32 := match h.2 a with
  | some (.inr (.inr (.inl (n, f)))) => if in_R i n then some (f i.toNatClampNeg) else none
  | _ => none
def ar_L (h : Hs_t) (a : Nat) (i : Int32) : Option Int64 := match h.2 a with
  | some (.inr (.inr (.inr (.inl (n, f))))) => if in_R i n then some (f i.toNatClampNeg) else none
  | _ => none
def ar_R (h : Hs_t) (a : Nat) (i : Int32) : Option (Option Nat) := match h.2 a with
  | some (.inr (.inr (.inr (.inr (n, f))))) => if in_R i n then some (f i.toNatClampNeg) else none
  | _ => none
def as_I (h : Hs_t) (a : Nat) (i x : Int32) : Option Hs_t := match h.2 a with
  | some (.inr (.inl (n, f))) => if in_R i n then some (hp_S h a (ce_I n (upd f i.toNatClampNeg x))) else none
  | _ => none
def as_Z (h : Hs_t) (a : Nat) (i x : Int32) : Option Hs_t := match h.2 a with
  | some (.inr (.inr (.inl (n, f)))) => if in_R i n && is_Z x then some (hp_S h a (ce_Z n (upd f i.toNatClampNeg x))) else none
  | _ => none
def as_L (h : Hs_t) (a : Nat) (i : Int32) (x : Int64) : Option Hs_t := match h.2 a with
  | some (.inr (.inr (.inr (.inl (n, f))))) => if in_R i n then some (hp_S h a (ce_L n (vp_updL f i.toNatClampNeg x))) else none
  | _ => none
def tg_O (h : Hs_t) (a : Nat) : Option Nat := match h.2 a with
  | some (.inl (t, _)) => some t
  | _ => none
def as_R (ts : List Nat) (h : Hs_t) (a : Nat) (i : Int32) (x : Nat) : Option Hs_t := match h.2 a with
  | some (.inr (.inr (.inr (.inr (n, f))))) => if in_R i n && (match tg_O h x with | some t => ts.contains t | none => false) then some (hp_S h a (ce_R n (va_up f i.toNatClampNeg (some x)))) else none
  | _ => none
def ln_A (h : Hs_t) (a : Nat) : Option Int32 := match h.2 a with
  | some (.inr (.inl (n, _))) => some (Int32.ofNat n)
  | some (.inr (.inr (.inl (n, _)))) => some (Int32.ofNat n)
  | some (.inr (.inr (.inr (.inl (n, _))))) => some (Int32.ofNat n)
  | some (.inr (.inr (.inr (.inr (n, _))))) => some (Int32.ofNat n)
  | _ => none
def cp_I (h : Hs_t) (a : Nat) (sp : Int32) (b : Nat) (dp n : Int32) : Option Hs_t := match h.2 a, h.2 b with
  | some (.inr (.inl (n0, f))), some (.inr (.inl (n1, g))) => if !decide (sp < 0) && !decide (dp < 0) && !decide (n < 0) && decide (sp.toNatClampNeg + n.toNatClampNeg ≤ n0) && decide (dp.toNatClampNeg + n.toNatClampNeg ≤ n1) then some (hp_S h b (ce_I n1 (va_cpy f g sp.toNatClampNeg dp.toNatClampNeg n.toNatClampNeg))) else none
  | _, _ => none
def bd_I (F : Rs_t) (k : Int32 → Hs_t → Rs_t) : Rs_t := match F with
  | some (.returned (some (.int v)), h) => k v h
  | some (.threw x, h) => some (.threw x, h)
  | _ => none
def bd_L (F : Rs_t) (k : Int64 → Hs_t → Rs_t) : Rs_t := match F with
  | some (.returned (some (.long v)), h) => k v h
  | some (.threw x, h) => some (.threw x, h)
  | _ => none
def bd_A (F : Rs_t) (k : Nat → Hs_t → Rs_t) : Rs_t := match F with
  | some (.returned (some (.ref v)), h) => k v h
  | some (.threw x, h) => some (.threw x, h)
  | _ => none
def bd_V (F : Rs_t) (k : Hs_t → Rs_t) : Rs_t := match F with
  | some (.returned none, h) => k h
  | some (.threw x, h) => some (.threw x, h)
  | _ => none
def re_I (v : Int32) (h : Hs_t) : Rs_t := some (.returned (some (.int v)), h)
def re_Z (v : Int32) (h : Hs_t) : Rs_t := if is_Z v then some (.returned (some (.int v)), h) else none
def re_L (v : Int64) (h : Hs_t) : Rs_t := some (.returned (some (.long v)), h)
def re_A (v : Nat) (h : Hs_t) : Rs_t := some (.returned (some (.ref v)), h)
def re_V (h : Hs_t) : Rs_t := some (.returned none, h)
def re_T (x : Nat) (h : Hs_t) : Rs_t := some (.threw x, h)
end
section
def ex_Good (w : Cond) : Bool := match w with
  | .declares _ => true
  | .castable _ _ => true
  | .methodLinkNest _ _ _ _ => true
  | .arrayOver (.object _) => true
  | w => goodWord w
def ex_W (w : Cond) : Prop := w ∈ lw_tbl ∧ ex_Good w = true
theorem ex_warm {s0 s : State} (hW : s0.WarmedH s.vm) {A0 args : Array Value} {w : Cond} (hg : ex_Good w = true) (h : w.before A0 s0 = true) : w.before args s = true := by
  unfold ex_Good at hg
  split at hg
  · exact va_Nw.use rfl (va_Nw.warmD hW (va_Nw.of rfl h))
  · exact va_Nw.use rfl (va_Nw.warmC hW (va_Nw.of rfl h))
  · exact va_Nw.use rfl (va_Nw.warmM hW (va_Nw.of rfl h))
  · exact va_AO.use (va_AO.moved hW.alike (va_AO.of h))
  · exact word_at hW (good_of_word hg) h
theorem wd_0 : ex_W (.initialized "StreamTowerLaw") := ⟨List.mem_append_right _ (List.mem_of_getElem? (i := 0) rfl), rfl⟩
theorem wd_1 : ex_W (.initialized "StreamTower") := ⟨List.mem_append_right _ (List.mem_of_getElem? (i := 1) rfl), rfl⟩
theorem wd_2 : ex_W (.initialized "StreamTower$Stream") := ⟨List.mem_append_right _ (List.mem_of_getElem? (i := 2) rfl), rfl⟩
theorem wd_3 : ex_W (.initialized "StreamTower$Source") := ⟨List.mem_append_right _ (List.mem_of_getElem? (i := 3) rfl), rfl⟩
theorem wd_4 : ex_W (.initialized "StreamTower$Row") := ⟨List.mem_append_right _ (List.mem_of_getElem? (i := 4) rfl), rfl⟩
theorem wd_5 : ex_W (.initialized "StreamTowerModel") := ⟨List.mem_append_right _ (List.mem_of_getElem? (i := 5) rfl), rfl⟩
theorem wd_6 : ex_W (.initialized "java/lang/Throwable") := ⟨List.mem_append_right _ (List.mem_of_getElem? (i := 6) rfl), rfl⟩
theorem wd_7 : ex_W (.initialized "java/lang/Exception") := ⟨List.mem_append_right _ (List.mem_of_getElem? (i := 7) rfl), rfl⟩
theorem wd_8 : ex_W (.initialized "java/lang/RuntimeException") := ⟨List.mem_append_right _ (List.mem_of_getElem? (i := 8) rfl), rfl⟩
theorem wd_9 : ex_W (.initialized "java/lang/IllegalArgumentException") := ⟨List.mem_append_right _ (List.mem_of_getElem? (i := 9) rfl), rfl⟩
theorem wd_10 : ex_W (.initialized "java/lang/IllegalStateException") := ⟨List.mem_append_right _ (List.mem_of_getElem? (i := 10) rfl), rfl⟩
theorem wd_11 : ex_W (.initialized "StreamTower$Buffer") := ⟨List.mem_append_right _ (List.mem_of_getElem? (i := 11) rfl), rfl⟩
theorem wd_12 : ex_W (.initialized "StreamTower$Pushback") := ⟨List.mem_append_right _ (List.mem_of_getElem? (i := 12) rfl), rfl⟩
theorem wd_13 : ex_W (.initialized "StreamTower$Passing") := ⟨List.mem_append_right _ (List.mem_of_getElem? (i := 13) rfl), rfl⟩
theorem wd_14 : ex_W (.initialized "StreamTower$Limit") := ⟨List.mem_append_right _ (List.mem_of_getElem? (i := 14) rfl), rfl⟩
theorem wd_15 : ex_W (.initialized "StreamTower$Code") := ⟨List.mem_append_right _ (List.mem_of_getElem? (i := 15) rfl), rfl⟩
theorem wd_16 : ex_W (.initialized "StreamTower$Lines") := ⟨List.mem_append_right _ (List.mem_of_getElem? (i := 16) rfl), rfl⟩
theorem wd_17 : ex_W (.initialized "java/lang/Math") := ⟨List.mem_append_right _ (List.mem_of_getElem? (i := 17) rfl), rfl⟩
theorem wd_18 : ex_W (.initialized "java/lang/System") := ⟨List.mem_append_right _ (List.mem_of_getElem? (i := 18) rfl), rfl⟩
theorem wd_19 : ex_W (.initialized "java/util/NoSuchElementException") := ⟨List.mem_append_right _ (List.mem_of_getElem? (i := 19) rfl), rfl⟩
theorem wd_20 : ex_W (.initialized "java/lang/UnsupportedOperationException") := ⟨List.mem_append_right _ (List.mem_of_getElem? (i := 20) rfl), rfl⟩
theorem wd_21 : ex_W (.classLink "StreamTowerLaw" 8 "StreamTower") := ⟨List.mem_append_right _ (List.mem_of_getElem? (i := 21) rfl), rfl⟩
theorem wd_22 : ex_W (.instantiable "StreamTower" 10) := ⟨List.mem_append_right _ (List.mem_of_getElem? (i := 22) rfl), rfl⟩
theorem wd_23 : ex_W (.methodLink "StreamTowerLaw" 58 ⟨"StreamTower", "<init>", "()V"⟩) := ⟨List.mem_append_right _ (List.mem_of_getElem? (i := 23) rfl), rfl⟩
theorem wd_24 : ex_W (.instanceMethod ⟨"StreamTower", "<init>", "()V"⟩) := ⟨List.mem_append_right _ (List.mem_of_getElem? (i := 24) rfl), rfl⟩
theorem wd_25 : ex_W (.code ⟨"StreamTower", "<init>", "()V"⟩ prog_1_method_1_code 1 none) := ⟨List.mem_append_right _ (List.mem_of_getElem? (i := 25) rfl), rfl⟩
theorem wd_26 : ex_W (.methodLink "StreamTower" 3 ⟨"java/lang/Object", "<init>", "()V"⟩) := ⟨List.mem_append_right _ (List.mem_of_getElem? (i := 26) rfl), rfl⟩
theorem wd_27 : ex_W (.instanceMethod ⟨"java/lang/Object", "<init>", "()V"⟩) := ⟨List.mem_append_right _ (List.mem_of_getElem? (i := 27) rfl), rfl⟩
theorem wd_28 : ex_W (.code ⟨"java/lang/Object", "<init>", "()V"⟩ object_method_1_code 1 none) := ⟨List.mem_append_right _ (List.mem_of_getElem? (i := 28) rfl), rfl⟩
theorem wd_29 : ex_W (.classLink "StreamTower" 9 "StreamTower$Source") := ⟨List.mem_append_right _ (List.mem_of_getElem? (i := 29) rfl), rfl⟩
theorem wd_30 : ex_W (.instantiable "StreamTower$Source" 5) := ⟨List.mem_append_right _ (List.mem_of_getElem? (i := 30) rfl), rfl⟩
theorem wd_31 : ex_W (.methodLink "StreamTower" 11 ⟨"StreamTower$Source", "<init>", "()V"⟩) := ⟨List.mem_append_right _ (List.mem_of_getElem? (i := 31) rfl), rfl⟩
theorem wd_32 : ex_W (.instanceMethod ⟨"StreamTower$Source", "<init>", "()V"⟩) := ⟨List.mem_append_right _ (List.mem_of_getElem? (i := 32) rfl), rfl⟩
theorem wd_33 : ex_W (.code ⟨"StreamTower$Source", "<init>", "()V"⟩ prog_9_method_1_code 1 none) := ⟨List.mem_append_right _ (List.mem_of_getElem? (i := 33) rfl), rfl⟩
theorem wd_34 : ex_W (.methodLinkNest "StreamTower$Source" 3 ⟨"StreamTower$Stream", "<init>", "()V"⟩ "StreamTower") := ⟨List.mem_append_right _ (List.mem_of_getElem? (i := 34) rfl), rfl⟩
theorem wd_35 : ex_W (.instanceMethod ⟨"StreamTower$Stream", "<init>", "()V"⟩) := ⟨List.mem_append_right _ (List.mem_of_getElem? (i := 35) rfl), rfl⟩
theorem wd_36 : ex_W (.code ⟨"StreamTower$Stream", "<init>", "()V"⟩ prog_10_method_1_code 1 none) := ⟨List.mem_append_right _ (List.mem_of_getElem? (i := 36) rfl), rfl⟩
theorem wd_37 : ex_W (.methodLink "StreamTower$Stream" 1 ⟨"java/lang/Object", "<init>", "()V"⟩) := ⟨List.mem_append_right _ (List.mem_of_getElem? (i := 37) rfl), rfl⟩
theorem wd_38 : ex_W (.fieldLink "StreamTower$Source" 9 "StreamTower$Source" "bytes" "[I") := ⟨List.mem_append_right _ (List.mem_of_getElem? (i := 38) rfl), rfl⟩
theorem wd_39 : ex_W (.fieldLink "StreamTower$Source" 15 "StreamTower$Source" "startsPortion" "[Z") := ⟨List.mem_append_right _ (List.mem_of_getElem? (i := 39) rfl), rfl⟩
theorem wd_40 : ex_W (.fieldLink "StreamTower$Source" 19 "StreamTower$Source" "broken" "[Z") := ⟨List.mem_append_right _ (List.mem_of_getElem? (i := 40) rfl), rfl⟩
theorem wd_41 : ex_W (.fieldLink "StreamTower$Source" 22 "StreamTower$Source" "count" "I") := ⟨List.mem_append_right _ (List.mem_of_getElem? (i := 41) rfl), rfl⟩
theorem wd_42 : ex_W (.fieldLink "StreamTower" 55 "StreamTower$Source" "count" "I") := ⟨List.mem_append_right _ (List.mem_of_getElem? (i := 42) rfl), rfl⟩
theorem wd_43 : ex_W (.fieldLink "StreamTower$Source" 30 "StreamTower$Source" "taken" "I") := ⟨List.mem_append_right _ (List.mem_of_getElem? (i := 43) rfl), rfl⟩
theorem wd_44 : ex_W (.laysFinal "StreamTower$Source" "StreamTower$Source" "bytes" "[I") := ⟨List.mem_append_right _ (List.mem_of_getElem? (i := 44) rfl), rfl⟩
theorem wd_45 : ex_W (.soleField "StreamTower$Source" "bytes") := ⟨List.mem_append_right _ (List.mem_of_getElem? (i := 45) rfl), rfl⟩
theorem wd_46 : ex_W (.laysFinal "StreamTower$Source" "StreamTower$Source" "startsPortion" "[Z") := ⟨List.mem_append_right _ (List.mem_of_getElem? (i := 46) rfl), rfl⟩
theorem wd_47 : ex_W (.soleField "StreamTower$Source" "startsPortion") := ⟨List.mem_append_right _ (List.mem_of_getElem? (i := 47) rfl), rfl⟩
theorem wd_48 : ex_W (.laysFinal "StreamTower$Source" "StreamTower$Source" "broken" "[Z") := ⟨List.mem_append_right _ (List.mem_of_getElem? (i := 48) rfl), rfl⟩
theorem wd_49 : ex_W (.soleField "StreamTower$Source" "broken") := ⟨List.mem_append_right _ (List.mem_of_getElem? (i := 49) rfl), rfl⟩
theorem wd_50 : ex_W (.lays "StreamTower$Source" "StreamTower$Source" "count" "I") := ⟨List.mem_append_right _ (List.mem_of_getElem? (i := 50) rfl), rfl⟩
theorem wd_51 : ex_W (.soleField "StreamTower$Source" "count") := ⟨List.mem_append_right _ (List.mem_of_getElem? (i := 51) rfl), rfl⟩
theorem wd_52 : ex_W (.lays "StreamTower$Source" "StreamTower$Source" "taken" "I") := ⟨List.mem_append_right _ (List.mem_of_getElem? (i := 52) rfl), rfl⟩
theorem wd_53 : ex_W (.soleField "StreamTower$Source" "taken") := ⟨List.mem_append_right _ (List.mem_of_getElem? (i := 53) rfl), rfl⟩
theorem wd_54 : ex_W (.superclass "StreamTower$Source" "StreamTower$Stream") := ⟨List.mem_append_right _ (List.mem_of_getElem? (i := 54) rfl), rfl⟩
theorem wd_55 : ex_W (.arrayClass FieldType.int) := ⟨List.mem_append_right _ (List.mem_of_getElem? (i := 55) rfl), rfl⟩
theorem wd_56 : ex_W (.arrayClass FieldType.boolean) := ⟨List.mem_append_right _ (List.mem_of_getElem? (i := 56) rfl), rfl⟩
theorem wd_57 : ex_W (.classLink "StreamTower" 16 "StreamTower$Stream") := ⟨List.mem_append_right _ (List.mem_of_getElem? (i := 57) rfl), rfl⟩
theorem wd_58 : ex_W (.arrayOver (FieldType.object "StreamTower$Stream")) := ⟨List.mem_append_right _ (List.mem_of_getElem? (i := 58) rfl), rfl⟩
theorem wd_59 : ex_W (.classLink "StreamTower" 26 "StreamTower$Row") := ⟨List.mem_append_right _ (List.mem_of_getElem? (i := 59) rfl), rfl⟩
theorem wd_60 : ex_W (.instantiable "StreamTower$Row" 2) := ⟨List.mem_append_right _ (List.mem_of_getElem? (i := 60) rfl), rfl⟩
theorem wd_61 : ex_W (.methodLink "StreamTower" 28 ⟨"StreamTower$Row", "<init>", "(I)V"⟩) := ⟨List.mem_append_right _ (List.mem_of_getElem? (i := 61) rfl), rfl⟩
theorem wd_62 : ex_W (.instanceMethod ⟨"StreamTower$Row", "<init>", "(I)V"⟩) := ⟨List.mem_append_right _ (List.mem_of_getElem? (i := 62) rfl), rfl⟩
theorem wd_63 : ex_W (.code ⟨"StreamTower$Row", "<init>", "(I)V"⟩ prog_8_method_1_code 2 none) := ⟨List.mem_append_right _ (List.mem_of_getElem? (i := 63) rfl), rfl⟩
theorem wd_64 : ex_W (.methodLink "StreamTower$Row" 3 ⟨"java/lang/Object", "<init>", "()V"⟩) := ⟨List.mem_append_right _ (List.mem_of_getElem? (i := 64) rfl), rfl⟩
theorem wd_65 : ex_W (.fieldLink "StreamTower$Row" 9 "StreamTower$Row" "items" "[I") := ⟨List.mem_append_right _ (List.mem_of_getElem? (i := 65) rfl), rfl⟩
theorem wd_66 : ex_W (.fieldLink "StreamTower$Row" 15 "StreamTower$Row" "count" "I") := ⟨List.mem_append_right _ (List.mem_of_getElem? (i := 66) rfl), rfl⟩
theorem wd_67 : ex_W (.fieldLink "StreamTower" 111 "StreamTower$Row" "count" "I") := ⟨List.mem_append_right _ (List.mem_of_getElem? (i := 67) rfl), rfl⟩
theorem wd_68 : ex_W (.laysFinal "StreamTower$Row" "StreamTower$Row" "items" "[I") := ⟨List.mem_append_right _ (List.mem_of_getElem? (i := 68) rfl), rfl⟩
theorem wd_69 : ex_W (.soleField "StreamTower$Row" "items") := ⟨List.mem_append_right _ (List.mem_of_getElem? (i := 69) rfl), rfl⟩
theorem wd_70 : ex_W (.lays "StreamTower$Row" "StreamTower$Row" "count" "I") := ⟨List.mem_append_right _ (List.mem_of_getElem? (i := 70) rfl), rfl⟩
theorem wd_71 : ex_W (.soleField "StreamTower$Row" "count") := ⟨List.mem_append_right _ (List.mem_of_getElem? (i := 71) rfl), rfl⟩
theorem wd_72 : ex_W (.superclass "StreamTower$Row" "java/lang/Object") := ⟨List.mem_append_right _ (List.mem_of_getElem? (i := 72) rfl), rfl⟩
theorem wd_73 : ex_W (.fieldLink "StreamTower" 12 "StreamTower" "source" "LStreamTower$Source;") := ⟨List.mem_append_right _ (List.mem_of_getElem? (i := 73) rfl), rfl⟩
theorem wd_74 : ex_W (.fieldLink "StreamTower" 18 "StreamTower" "layers" "[LStreamTower$Stream;") := ⟨List.mem_append_right _ (List.mem_of_getElem? (i := 74) rfl), rfl⟩
theorem wd_75 : ex_W (.fieldLink "StreamTower" 22 "StreamTower" "answered" "[I") := ⟨List.mem_append_right _ (List.mem_of_getElem? (i := 75) rfl), rfl⟩
theorem wd_76 : ex_W (.fieldLink "StreamTower" 31 "StreamTower" "bag" "LStreamTower$Row;") := ⟨List.mem_append_right _ (List.mem_of_getElem? (i := 76) rfl), rfl⟩
theorem wd_77 : ex_W (.fieldLink "StreamTower" 35 "StreamTower" "letters" "LStreamTower$Row;") := ⟨List.mem_append_right _ (List.mem_of_getElem? (i := 77) rfl), rfl⟩
theorem wd_78 : ex_W (.fieldLink "StreamTower" 38 "StreamTower" "top" "LStreamTower$Stream;") := ⟨List.mem_append_right _ (List.mem_of_getElem? (i := 78) rfl), rfl⟩
theorem wd_79 : ex_W (.fieldLink "StreamTower" 76 "StreamTower" "layerCount" "I") := ⟨List.mem_append_right _ (List.mem_of_getElem? (i := 79) rfl), rfl⟩
theorem wd_80 : ex_W (.fieldLink "StreamTower" 72 "StreamTower" "closed" "Z") := ⟨List.mem_append_right _ (List.mem_of_getElem? (i := 80) rfl), rfl⟩
theorem wd_81 : ex_W (.fieldLink "StreamTower" 112 "StreamTower" "leavesOutLineFeed" "Z") := ⟨List.mem_append_right _ (List.mem_of_getElem? (i := 81) rfl), rfl⟩
theorem wd_82 : ex_W (.fieldLink "StreamTower" 131 "StreamTower" "leftOutLineFeedAtMark" "Z") := ⟨List.mem_append_right _ (List.mem_of_getElem? (i := 82) rfl), rfl⟩
theorem wd_83 : ex_W (.laysFinal "StreamTower" "StreamTower" "source" "LStreamTower$Source;") := ⟨List.mem_append_right _ (List.mem_of_getElem? (i := 83) rfl), rfl⟩
theorem wd_84 : ex_W (.soleField "StreamTower" "source") := ⟨List.mem_append_right _ (List.mem_of_getElem? (i := 84) rfl), rfl⟩
theorem wd_85 : ex_W (.laysFinal "StreamTower" "StreamTower" "layers" "[LStreamTower$Stream;") := ⟨List.mem_append_right _ (List.mem_of_getElem? (i := 85) rfl), rfl⟩
theorem wd_86 : ex_W (.soleField "StreamTower" "layers") := ⟨List.mem_append_right _ (List.mem_of_getElem? (i := 86) rfl), rfl⟩
theorem wd_87 : ex_W (.laysFinal "StreamTower" "StreamTower" "answered" "[I") := ⟨List.mem_append_right _ (List.mem_of_getElem? (i := 87) rfl), rfl⟩
theorem wd_88 : ex_W (.soleField "StreamTower" "answered") := ⟨List.mem_append_right _ (List.mem_of_getElem? (i := 88) rfl), rfl⟩
theorem wd_89 : ex_W (.laysFinal "StreamTower" "StreamTower" "bag" "LStreamTower$Row;") := ⟨List.mem_append_right _ (List.mem_of_getElem? (i := 89) rfl), rfl⟩
theorem wd_90 : ex_W (.soleField "StreamTower" "bag") := ⟨List.mem_append_right _ (List.mem_of_getElem? (i := 90) rfl), rfl⟩
theorem wd_91 : ex_W (.laysFinal "StreamTower" "StreamTower" "letters" "LStreamTower$Row;") := ⟨List.mem_append_right _ (List.mem_of_getElem? (i := 91) rfl), rfl⟩
theorem wd_92 : ex_W (.soleField "StreamTower" "letters") := ⟨List.mem_append_right _ (List.mem_of_getElem? (i := 92) rfl), rfl⟩
theorem wd_93 : ex_W (.lays "StreamTower" "StreamTower" "top" "LStreamTower$Stream;") := ⟨List.mem_append_right _ (List.mem_of_getElem? (i := 93) rfl), rfl⟩
theorem wd_94 : ex_W (.soleField "StreamTower" "top") := ⟨List.mem_append_right _ (List.mem_of_getElem? (i := 94) rfl), rfl⟩
theorem wd_95 : ex_W (.lays "StreamTower" "StreamTower" "layerCount" "I") := ⟨List.mem_append_right _ (List.mem_of_getElem? (i := 95) rfl), rfl⟩
theorem wd_96 : ex_W (.soleField "StreamTower" "layerCount") := ⟨List.mem_append_right _ (List.mem_of_getElem? (i := 96) rfl), rfl⟩
theorem wd_97 : ex_W (.lays "StreamTower" "StreamTower" "closed" "Z") := ⟨List.mem_append_right _ (List.mem_of_getElem? (i := 97) rfl), rfl⟩
theorem wd_98 : ex_W (.soleField "StreamTower" "closed") := ⟨List.mem_append_right _ (List.mem_of_getElem? (i := 98) rfl), rfl⟩
theorem wd_99 : ex_W (.lays "StreamTower" "StreamTower" "leavesOutLineFeed" "Z") := ⟨List.mem_append_right _ (List.mem_of_getElem? (i := 99) rfl), rfl⟩
theorem wd_100 : ex_W (.soleField "StreamTower" "leavesOutLineFeed") := ⟨List.mem_append_right _ (List.mem_of_getElem? (i := 100) rfl), rfl⟩
theorem wd_101 : ex_W (.lays "StreamTower" "StreamTower" "leftOutLineFeedAtMark" "Z") := ⟨List.mem_append_right _ (List.mem_of_getElem? (i := 101) rfl), rfl⟩
theorem wd_102 : ex_W (.soleField "StreamTower" "leftOutLineFeedAtMark") := ⟨List.mem_append_right _ (List.mem_of_getElem? (i := 102) rfl), rfl⟩
theorem wd_103 : ex_W (.superclass "StreamTower" "java/lang/Object") := ⟨List.mem_append_right _ (List.mem_of_getElem? (i := 103) rfl), rfl⟩
theorem wd_104 : ex_W (.methodLink "StreamTowerLaw" 71 ⟨"StreamTower", "portion", "()V"⟩) := ⟨List.mem_append_right _ (List.mem_of_getElem? (i := 104) rfl), rfl⟩
theorem wd_105 : ex_W (.instanceMethod ⟨"StreamTower", "portion", "()V"⟩) := ⟨List.mem_append_right _ (List.mem_of_getElem? (i := 105) rfl), rfl⟩
theorem wd_106 : ex_W (.selects "StreamTower" ⟨"StreamTower", "portion", "()V"⟩ ⟨"StreamTower", "portion", "()V"⟩) := ⟨List.mem_append_right _ (List.mem_of_getElem? (i := 106) rfl), rfl⟩
theorem wd_107 : ex_W (.code ⟨"StreamTower", "portion", "()V"⟩ prog_1_method_3_code 1 none) := ⟨List.mem_append_right _ (List.mem_of_getElem? (i := 107) rfl), rfl⟩
theorem wd_108 : ex_W (.methodLink "StreamTower" 59 ⟨"StreamTower$Source", "startPortion", "()V"⟩) := ⟨List.mem_append_right _ (List.mem_of_getElem? (i := 108) rfl), rfl⟩
theorem wd_109 : ex_W (.instanceMethod ⟨"StreamTower$Source", "startPortion", "()V"⟩) := ⟨List.mem_append_right _ (List.mem_of_getElem? (i := 109) rfl), rfl⟩
theorem wd_110 : ex_W (.selects "StreamTower$Source" ⟨"StreamTower$Source", "startPortion", "()V"⟩ ⟨"StreamTower$Source", "startPortion", "()V"⟩) := ⟨List.mem_append_right _ (List.mem_of_getElem? (i := 110) rfl), rfl⟩
theorem wd_111 : ex_W (.code ⟨"StreamTower$Source", "startPortion", "()V"⟩ prog_9_method_4_code 1 none) := ⟨List.mem_append_right _ (List.mem_of_getElem? (i := 111) rfl), rfl⟩
theorem wd_112 : ex_W (.methodLink "StreamTowerLaw" 75 ⟨"StreamTower", "breakAt", "(I)Z"⟩) := ⟨List.mem_append_right _ (List.mem_of_getElem? (i := 112) rfl), rfl⟩
theorem wd_113 : ex_W (.instanceMethod ⟨"StreamTower", "breakAt", "(I)Z"⟩) := ⟨List.mem_append_right _ (List.mem_of_getElem? (i := 113) rfl), rfl⟩
theorem wd_114 : ex_W (.selects "StreamTower" ⟨"StreamTower", "breakAt", "(I)Z"⟩ ⟨"StreamTower", "breakAt", "(I)Z"⟩) := ⟨List.mem_append_right _ (List.mem_of_getElem? (i := 114) rfl), rfl⟩
theorem wd_115 : ex_W (.code ⟨"StreamTower", "breakAt", "(I)Z"⟩ prog_1_method_4_code 2 (some FieldType.boolean)) := ⟨List.mem_append_right _ (List.mem_of_getElem? (i := 115) rfl), rfl⟩
theorem wd_116 : ex_W (.methodLink "StreamTower" 62 ⟨"StreamTower$Source", "mend", "()V"⟩) := ⟨List.mem_append_right _ (List.mem_of_getElem? (i := 116) rfl), rfl⟩
theorem wd_117 : ex_W (.instanceMethod ⟨"StreamTower$Source", "mend", "()V"⟩) := ⟨List.mem_append_right _ (List.mem_of_getElem? (i := 117) rfl), rfl⟩
theorem wd_118 : ex_W (.selects "StreamTower$Source" ⟨"StreamTower$Source", "mend", "()V"⟩ ⟨"StreamTower$Source", "mend", "()V"⟩) := ⟨List.mem_append_right _ (List.mem_of_getElem? (i := 118) rfl), rfl⟩
theorem wd_119 : ex_W (.code ⟨"StreamTower$Source", "mend", "()V"⟩ prog_9_method_5_code 2 none) := ⟨List.mem_append_right _ (List.mem_of_getElem? (i := 119) rfl), rfl⟩
theorem wd_120 : ex_W (.methodLink "StreamTower" 65 ⟨"StreamTower$Source", "breakPlace", "(I)Z"⟩) := ⟨List.mem_append_right _ (List.mem_of_getElem? (i := 120) rfl), rfl⟩
theorem wd_121 : ex_W (.instanceMethod ⟨"StreamTower$Source", "breakPlace", "(I)Z"⟩) := ⟨List.mem_append_right _ (List.mem_of_getElem? (i := 121) rfl), rfl⟩
theorem wd_122 : ex_W (.selects "StreamTower$Source" ⟨"StreamTower$Source", "breakPlace", "(I)Z"⟩ ⟨"StreamTower$Source", "breakPlace", "(I)Z"⟩) := ⟨List.mem_append_right _ (List.mem_of_getElem? (i := 122) rfl), rfl⟩
theorem wd_123 : ex_W (.code ⟨"StreamTower$Source", "breakPlace", "(I)Z"⟩ prog_9_method_6_code 2 (some FieldType.boolean)) := ⟨List.mem_append_right _ (List.mem_of_getElem? (i := 123) rfl), rfl⟩
theorem wd_124 : ex_W (.methodLink "StreamTowerLaw" 117 ⟨"StreamTower", "available", "()I"⟩) := ⟨List.mem_append_right _ (List.mem_of_getElem? (i := 124) rfl), rfl⟩
theorem wd_125 : ex_W (.instanceMethod ⟨"StreamTower", "available", "()I"⟩) := ⟨List.mem_append_right _ (List.mem_of_getElem? (i := 125) rfl), rfl⟩
theorem wd_126 : ex_W (.selects "StreamTower" ⟨"StreamTower", "available", "()I"⟩ ⟨"StreamTower", "available", "()I"⟩) := ⟨List.mem_append_right _ (List.mem_of_getElem? (i := 126) rfl), rfl⟩
theorem wd_127 : ex_W (.code ⟨"StreamTower", "available", "()I"⟩ prog_1_method_16_code 1 (some FieldType.int)) := ⟨List.mem_append_right _ (List.mem_of_getElem? (i := 127) rfl), rfl⟩
theorem wd_128 : ex_W (.methodLink "StreamTower" 145 ⟨"StreamTower$Stream", "ready", "()I"⟩) := ⟨List.mem_append_right _ (List.mem_of_getElem? (i := 128) rfl), rfl⟩
theorem wd_129 : ex_W (.declares ⟨"StreamTower$Stream", "ready", "()I"⟩) := ⟨List.mem_append_right _ (List.mem_of_getElem? (i := 129) rfl), rfl⟩
theorem wd_130 : ex_W (.sameMethod "StreamTower$Stream" "StreamTower$Stream" "ready" "()I") := ⟨List.mem_append_right _ (List.mem_of_getElem? (i := 130) rfl), rfl⟩
theorem wd_131 : ex_W (.selects "StreamTower$Buffer" ⟨"StreamTower$Stream", "ready", "()I"⟩ ⟨"StreamTower$Buffer", "ready", "()I"⟩) := ⟨List.mem_append_right _ (List.mem_of_getElem? (i := 131) rfl), rfl⟩
theorem wd_132 : ex_W (.instanceMethod ⟨"StreamTower$Buffer", "ready", "()I"⟩) := ⟨List.mem_append_right _ (List.mem_of_getElem? (i := 132) rfl), rfl⟩
theorem wd_133 : ex_W (.code ⟨"StreamTower$Buffer", "ready", "()I"⟩ prog_2_method_5_code 1 (some FieldType.int)) := ⟨List.mem_append_right _ (List.mem_of_getElem? (i := 133) rfl), rfl⟩
theorem wd_134 : ex_W (.methodLink "StreamTower$Buffer" 62 ⟨"StreamTower$Stream", "ready", "()I"⟩) := ⟨List.mem_append_right _ (List.mem_of_getElem? (i := 134) rfl), rfl⟩
theorem wd_135 : ex_W (.instanceMethod ⟨"StreamTower$Passing", "ready", "()I"⟩) := ⟨List.mem_append_right _ (List.mem_of_getElem? (i := 135) rfl), rfl⟩
theorem wd_136 : ex_W (.code ⟨"StreamTower$Passing", "ready", "()I"⟩ prog_6_method_4_code 1 (some FieldType.int)) := ⟨List.mem_append_right _ (List.mem_of_getElem? (i := 136) rfl), rfl⟩
theorem wd_137 : ex_W (.methodLink "StreamTower$Passing" 13 ⟨"StreamTower$Stream", "ready", "()I"⟩) := ⟨List.mem_append_right _ (List.mem_of_getElem? (i := 137) rfl), rfl⟩
theorem wd_138 : ex_W (.instanceMethod ⟨"StreamTower$Limit", "ready", "()I"⟩) := ⟨List.mem_append_right _ (List.mem_of_getElem? (i := 138) rfl), rfl⟩
theorem wd_139 : ex_W (.code ⟨"StreamTower$Limit", "ready", "()I"⟩ prog_4_method_3_code 1 (some FieldType.int)) := ⟨List.mem_append_right _ (List.mem_of_getElem? (i := 139) rfl), rfl⟩
theorem wd_140 : ex_W (.methodLink "StreamTower$Limit" 34 ⟨"StreamTower$Stream", "ready", "()I"⟩) := ⟨List.mem_append_right _ (List.mem_of_getElem? (i := 140) rfl), rfl⟩
theorem wd_141 : ex_W (.instanceMethod ⟨"StreamTower$Pushback", "ready", "()I"⟩) := ⟨List.mem_append_right _ (List.mem_of_getElem? (i := 141) rfl), rfl⟩
theorem wd_142 : ex_W (.code ⟨"StreamTower$Pushback", "ready", "()I"⟩ prog_7_method_4_code 1 (some FieldType.int)) := ⟨List.mem_append_right _ (List.mem_of_getElem? (i := 142) rfl), rfl⟩
theorem wd_143 : ex_W (.methodLink "StreamTower$Pushback" 31 ⟨"StreamTower$Stream", "ready", "()I"⟩) := ⟨List.mem_append_right _ (List.mem_of_getElem? (i := 143) rfl), rfl⟩
theorem wd_144 : ex_W (.instanceMethod ⟨"StreamTower$Source", "ready", "()I"⟩) := ⟨List.mem_append_right _ (List.mem_of_getElem? (i := 144) rfl), rfl⟩
theorem wd_145 : ex_W (.code ⟨"StreamTower$Source", "ready", "()I"⟩ prog_9_method_8_code 2 (some FieldType.int)) := ⟨List.mem_append_right _ (List.mem_of_getElem? (i := 145) rfl), rfl⟩
theorem wd_146 : ex_W (.methodLink "StreamTower$Limit" 22 ⟨"java/lang/Math", "min", "(II)I"⟩) := ⟨List.mem_append_right _ (List.mem_of_getElem? (i := 146) rfl), rfl⟩
theorem wd_147 : ex_W (.static ⟨"java/lang/Math", "min", "(II)I"⟩) := ⟨List.mem_append_right _ (List.mem_of_getElem? (i := 147) rfl), rfl⟩
theorem wd_148 : ex_W (.code ⟨"java/lang/Math", "min", "(II)I"⟩ prog_16_method_69_code 2 (some FieldType.int)) := ⟨List.mem_append_right _ (List.mem_of_getElem? (i := 148) rfl), rfl⟩
theorem wd_149 : ex_W (.selects "StreamTower$Code" ⟨"StreamTower$Stream", "ready", "()I"⟩ ⟨"StreamTower$Passing", "ready", "()I"⟩) := ⟨List.mem_append_right _ (List.mem_of_getElem? (i := 149) rfl), rfl⟩
theorem wd_150 : ex_W (.selects "StreamTower$Limit" ⟨"StreamTower$Stream", "ready", "()I"⟩ ⟨"StreamTower$Limit", "ready", "()I"⟩) := ⟨List.mem_append_right _ (List.mem_of_getElem? (i := 150) rfl), rfl⟩
theorem wd_151 : ex_W (.selects "StreamTower$Lines" ⟨"StreamTower$Stream", "ready", "()I"⟩ ⟨"StreamTower$Passing", "ready", "()I"⟩) := ⟨List.mem_append_right _ (List.mem_of_getElem? (i := 151) rfl), rfl⟩
theorem wd_152 : ex_W (.selects "StreamTower$Pushback" ⟨"StreamTower$Stream", "ready", "()I"⟩ ⟨"StreamTower$Pushback", "ready", "()I"⟩) := ⟨List.mem_append_right _ (List.mem_of_getElem? (i := 152) rfl), rfl⟩
theorem wd_153 : ex_W (.selects "StreamTower$Source" ⟨"StreamTower$Stream", "ready", "()I"⟩ ⟨"StreamTower$Source", "ready", "()I"⟩) := ⟨List.mem_append_right _ (List.mem_of_getElem? (i := 153) rfl), rfl⟩
theorem wd_154 : ex_W (.methodLink "StreamTowerLaw" 121 ⟨"StreamTower", "close", "()V"⟩) := ⟨List.mem_append_right _ (List.mem_of_getElem? (i := 154) rfl), rfl⟩
theorem wd_155 : ex_W (.instanceMethod ⟨"StreamTower", "close", "()V"⟩) := ⟨List.mem_append_right _ (List.mem_of_getElem? (i := 155) rfl), rfl⟩
theorem wd_156 : ex_W (.selects "StreamTower" ⟨"StreamTower", "close", "()V"⟩ ⟨"StreamTower", "close", "()V"⟩) := ⟨List.mem_append_right _ (List.mem_of_getElem? (i := 156) rfl), rfl⟩
theorem wd_157 : ex_W (.code ⟨"StreamTower", "close", "()V"⟩ prog_1_method_17_code 1 none) := ⟨List.mem_append_right _ (List.mem_of_getElem? (i := 157) rfl), rfl⟩
theorem wd_158 : ex_W (.methodLink "StreamTowerLaw" 125 ⟨"StreamTower", "about", "(I)I"⟩) := ⟨List.mem_append_right _ (List.mem_of_getElem? (i := 158) rfl), rfl⟩
theorem wd_159 : ex_W (.instanceMethod ⟨"StreamTower", "about", "(I)I"⟩) := ⟨List.mem_append_right _ (List.mem_of_getElem? (i := 159) rfl), rfl⟩
theorem wd_160 : ex_W (.selects "StreamTower" ⟨"StreamTower", "about", "(I)I"⟩ ⟨"StreamTower", "about", "(I)I"⟩) := ⟨List.mem_append_right _ (List.mem_of_getElem? (i := 160) rfl), rfl⟩
theorem wd_161 : ex_W (.code ⟨"StreamTower", "about", "(I)I"⟩ prog_1_method_18_code 3 (some FieldType.int)) := ⟨List.mem_append_right _ (List.mem_of_getElem? (i := 161) rfl), rfl⟩
theorem wd_162 : ex_W (.methodLink "StreamTower" 149 ⟨"StreamTower$Source", "state", "()I"⟩) := ⟨List.mem_append_right _ (List.mem_of_getElem? (i := 162) rfl), rfl⟩
theorem wd_163 : ex_W (.instanceMethod ⟨"StreamTower$Source", "state", "()I"⟩) := ⟨List.mem_append_right _ (List.mem_of_getElem? (i := 163) rfl), rfl⟩
theorem wd_164 : ex_W (.selects "StreamTower$Source" ⟨"StreamTower$Source", "state", "()I"⟩ ⟨"StreamTower$Source", "state", "()I"⟩) := ⟨List.mem_append_right _ (List.mem_of_getElem? (i := 164) rfl), rfl⟩
theorem wd_165 : ex_W (.code ⟨"StreamTower$Source", "state", "()I"⟩ prog_9_method_9_code 1 (some FieldType.int)) := ⟨List.mem_append_right _ (List.mem_of_getElem? (i := 165) rfl), rfl⟩
theorem wd_166 : ex_W (.methodLink "StreamTower" 152 ⟨"StreamTower$Stream", "state", "()I"⟩) := ⟨List.mem_append_right _ (List.mem_of_getElem? (i := 166) rfl), rfl⟩
theorem wd_167 : ex_W (.declares ⟨"StreamTower$Stream", "state", "()I"⟩) := ⟨List.mem_append_right _ (List.mem_of_getElem? (i := 167) rfl), rfl⟩
theorem wd_168 : ex_W (.sameMethod "StreamTower$Stream" "StreamTower$Stream" "state" "()I") := ⟨List.mem_append_right _ (List.mem_of_getElem? (i := 168) rfl), rfl⟩
theorem wd_169 : ex_W (.selects "StreamTower$Buffer" ⟨"StreamTower$Stream", "state", "()I"⟩ ⟨"StreamTower$Buffer", "state", "()I"⟩) := ⟨List.mem_append_right _ (List.mem_of_getElem? (i := 169) rfl), rfl⟩
theorem wd_170 : ex_W (.instanceMethod ⟨"StreamTower$Buffer", "state", "()I"⟩) := ⟨List.mem_append_right _ (List.mem_of_getElem? (i := 170) rfl), rfl⟩
theorem wd_171 : ex_W (.code ⟨"StreamTower$Buffer", "state", "()I"⟩ prog_2_method_6_code 1 (some FieldType.int)) := ⟨List.mem_append_right _ (List.mem_of_getElem? (i := 171) rfl), rfl⟩
theorem wd_172 : ex_W (.selects "StreamTower$Code" ⟨"StreamTower$Stream", "state", "()I"⟩ ⟨"StreamTower$Code", "state", "()I"⟩) := ⟨List.mem_append_right _ (List.mem_of_getElem? (i := 172) rfl), rfl⟩
theorem wd_173 : ex_W (.instanceMethod ⟨"StreamTower$Code", "state", "()I"⟩) := ⟨List.mem_append_right _ (List.mem_of_getElem? (i := 173) rfl), rfl⟩
theorem wd_174 : ex_W (.code ⟨"StreamTower$Code", "state", "()I"⟩ prog_3_method_3_code 1 (some FieldType.int)) := ⟨List.mem_append_right _ (List.mem_of_getElem? (i := 174) rfl), rfl⟩
theorem wd_175 : ex_W (.selects "StreamTower$Limit" ⟨"StreamTower$Stream", "state", "()I"⟩ ⟨"StreamTower$Limit", "state", "()I"⟩) := ⟨List.mem_append_right _ (List.mem_of_getElem? (i := 175) rfl), rfl⟩
theorem wd_176 : ex_W (.instanceMethod ⟨"StreamTower$Limit", "state", "()I"⟩) := ⟨List.mem_append_right _ (List.mem_of_getElem? (i := 176) rfl), rfl⟩
theorem wd_177 : ex_W (.code ⟨"StreamTower$Limit", "state", "()I"⟩ prog_4_method_4_code 1 (some FieldType.int)) := ⟨List.mem_append_right _ (List.mem_of_getElem? (i := 177) rfl), rfl⟩
theorem wd_178 : ex_W (.selects "StreamTower$Lines" ⟨"StreamTower$Stream", "state", "()I"⟩ ⟨"StreamTower$Lines", "state", "()I"⟩) := ⟨List.mem_append_right _ (List.mem_of_getElem? (i := 178) rfl), rfl⟩
theorem wd_179 : ex_W (.instanceMethod ⟨"StreamTower$Lines", "state", "()I"⟩) := ⟨List.mem_append_right _ (List.mem_of_getElem? (i := 179) rfl), rfl⟩
theorem wd_180 : ex_W (.code ⟨"StreamTower$Lines", "state", "()I"⟩ prog_5_method_4_code 1 (some FieldType.int)) := ⟨List.mem_append_right _ (List.mem_of_getElem? (i := 180) rfl), rfl⟩
theorem wd_181 : ex_W (.selects "StreamTower$Pushback" ⟨"StreamTower$Stream", "state", "()I"⟩ ⟨"StreamTower$Pushback", "state", "()I"⟩) := ⟨List.mem_append_right _ (List.mem_of_getElem? (i := 181) rfl), rfl⟩
theorem wd_182 : ex_W (.instanceMethod ⟨"StreamTower$Pushback", "state", "()I"⟩) := ⟨List.mem_append_right _ (List.mem_of_getElem? (i := 182) rfl), rfl⟩
theorem wd_183 : ex_W (.code ⟨"StreamTower$Pushback", "state", "()I"⟩ prog_7_method_5_code 1 (some FieldType.int)) := ⟨List.mem_append_right _ (List.mem_of_getElem? (i := 183) rfl), rfl⟩
theorem wd_184 : ex_W (.selects "StreamTower$Source" ⟨"StreamTower$Stream", "state", "()I"⟩ ⟨"StreamTower$Source", "state", "()I"⟩) := ⟨List.mem_append_right _ (List.mem_of_getElem? (i := 184) rfl), rfl⟩
theorem wd_185 : ex_W (.methodLink "StreamTowerLaw" 129 ⟨"StreamTower", "size", "(Z)I"⟩) := ⟨List.mem_append_right _ (List.mem_of_getElem? (i := 185) rfl), rfl⟩
theorem wd_186 : ex_W (.instanceMethod ⟨"StreamTower", "size", "(Z)I"⟩) := ⟨List.mem_append_right _ (List.mem_of_getElem? (i := 186) rfl), rfl⟩
theorem wd_187 : ex_W (.selects "StreamTower" ⟨"StreamTower", "size", "(Z)I"⟩ ⟨"StreamTower", "size", "(Z)I"⟩) := ⟨List.mem_append_right _ (List.mem_of_getElem? (i := 187) rfl), rfl⟩
theorem wd_188 : ex_W (.code ⟨"StreamTower", "size", "(Z)I"⟩ prog_1_method_19_code 2 (some FieldType.int)) := ⟨List.mem_append_right _ (List.mem_of_getElem? (i := 188) rfl), rfl⟩
theorem wd_189 : ex_W (.methodLink "StreamTower" 153 ⟨"StreamTower", "rowOf", "(Z)LStreamTower$Row;"⟩) := ⟨List.mem_append_right _ (List.mem_of_getElem? (i := 189) rfl), rfl⟩
theorem wd_191 : ex_W (.instanceMethod ⟨"StreamTower", "rowOf", "(Z)LStreamTower$Row;"⟩) := ⟨List.mem_append_right _ (List.mem_of_getElem? (i := 191) rfl), rfl⟩
theorem wd_192 : ex_W (.code ⟨"StreamTower", "rowOf", "(Z)LStreamTower$Row;"⟩ prog_1_method_21_code 2 (some (FieldType.object "StreamTower$Row"))) := ⟨List.mem_append_right _ (List.mem_of_getElem? (i := 192) rfl), rfl⟩
theorem wd_193 : ex_W (.methodLink "StreamTowerLaw" 134 ⟨"StreamTower", "at", "(IZ)I"⟩) := ⟨List.mem_append_right _ (List.mem_of_getElem? (i := 193) rfl), rfl⟩
theorem wd_194 : ex_W (.instanceMethod ⟨"StreamTower", "at", "(IZ)I"⟩) := ⟨List.mem_append_right _ (List.mem_of_getElem? (i := 194) rfl), rfl⟩
theorem wd_195 : ex_W (.selects "StreamTower" ⟨"StreamTower", "at", "(IZ)I"⟩ ⟨"StreamTower", "at", "(IZ)I"⟩) := ⟨List.mem_append_right _ (List.mem_of_getElem? (i := 195) rfl), rfl⟩
theorem wd_196 : ex_W (.code ⟨"StreamTower", "at", "(IZ)I"⟩ prog_1_method_20_code 3 (some FieldType.int)) := ⟨List.mem_append_right _ (List.mem_of_getElem? (i := 196) rfl), rfl⟩
theorem wd_197 : ex_W (.methodLink "StreamTower" 94 ⟨"StreamTower$Row", "get", "(I)I"⟩) := ⟨List.mem_append_right _ (List.mem_of_getElem? (i := 197) rfl), rfl⟩
theorem wd_198 : ex_W (.instanceMethod ⟨"StreamTower$Row", "get", "(I)I"⟩) := ⟨List.mem_append_right _ (List.mem_of_getElem? (i := 198) rfl), rfl⟩
theorem wd_199 : ex_W (.selects "StreamTower$Row" ⟨"StreamTower$Row", "get", "(I)I"⟩ ⟨"StreamTower$Row", "get", "(I)I"⟩) := ⟨List.mem_append_right _ (List.mem_of_getElem? (i := 199) rfl), rfl⟩
theorem wd_200 : ex_W (.code ⟨"StreamTower$Row", "get", "(I)I"⟩ prog_8_method_5_code 2 (some FieldType.int)) := ⟨List.mem_append_right _ (List.mem_of_getElem? (i := 200) rfl), rfl⟩
theorem wd_201 : ex_W (.methodLink "StreamTowerLaw" 62 ⟨"StreamTowerLaw", "feed", "(LStreamTower;II[J)I"⟩) := ⟨List.mem_append_right _ (List.mem_of_getElem? (i := 201) rfl), rfl⟩
theorem wd_202 : ex_W (.static ⟨"StreamTowerLaw", "feed", "(LStreamTower;II[J)I"⟩) := ⟨List.mem_append_right _ (List.mem_of_getElem? (i := 202) rfl), rfl⟩
theorem wd_203 : ex_W (.codeWith ⟨"StreamTowerLaw", "feed", "(LStreamTower;II[J)I"⟩ method_3_code 5 (some FieldType.int) [(0, 10, 13, 13), (0, 10, 17, 15)]) := ⟨List.mem_append_right _ (List.mem_of_getElem? (i := 203) rfl), rfl⟩
theorem wd_204 : ex_W (.classLink "StreamTowerLaw" 13 "java/lang/IllegalArgumentException") := ⟨List.mem_append_right _ (List.mem_of_getElem? (i := 204) rfl), rfl⟩
theorem wd_205 : ex_W (.classLink "StreamTowerLaw" 15 "java/lang/IllegalStateException") := ⟨List.mem_append_right _ (List.mem_of_getElem? (i := 205) rfl), rfl⟩
theorem wd_206 : ex_W (.methodLink "StreamTowerLaw" 7 ⟨"StreamTower", "feed", "(II)I"⟩) := ⟨List.mem_append_right _ (List.mem_of_getElem? (i := 206) rfl), rfl⟩
theorem wd_207 : ex_W (.instanceMethod ⟨"StreamTower", "feed", "(II)I"⟩) := ⟨List.mem_append_right _ (List.mem_of_getElem? (i := 207) rfl), rfl⟩
theorem wd_208 : ex_W (.selects "StreamTower" ⟨"StreamTower", "feed", "(II)I"⟩ ⟨"StreamTower", "feed", "(II)I"⟩) := ⟨List.mem_append_right _ (List.mem_of_getElem? (i := 208) rfl), rfl⟩
theorem wd_209 : ex_W (.code ⟨"StreamTower", "feed", "(II)I"⟩ prog_1_method_2_code 4 (some FieldType.int)) := ⟨List.mem_append_right _ (List.mem_of_getElem? (i := 209) rfl), rfl⟩
theorem wd_210 : ex_W (.classLink "StreamTower" 42 "java/lang/IllegalArgumentException") := ⟨List.mem_append_right _ (List.mem_of_getElem? (i := 210) rfl), rfl⟩
theorem wd_211 : ex_W (.instantiable "java/lang/IllegalArgumentException" 6) := ⟨List.mem_append_right _ (List.mem_of_getElem? (i := 211) rfl), rfl⟩
theorem wd_212 : ex_W (.castable "java/lang/IllegalArgumentException" "java/lang/IllegalArgumentException") := ⟨List.mem_append_right _ (List.mem_of_getElem? (i := 212) rfl), rfl⟩
theorem wd_213 : ex_W (.declares ⟨"java/lang/RuntimeException", "<init>", "()V"⟩) := ⟨List.mem_append_right _ (List.mem_of_getElem? (i := 213) rfl), rfl⟩
theorem wd_214 : ex_W (.declares ⟨"java/lang/RuntimeException", "<init>", "(Ljava/lang/String;)V"⟩) := ⟨List.mem_append_right _ (List.mem_of_getElem? (i := 214) rfl), rfl⟩
theorem wd_215 : ex_W (.declares ⟨"java/lang/Exception", "<init>", "()V"⟩) := ⟨List.mem_append_right _ (List.mem_of_getElem? (i := 215) rfl), rfl⟩
theorem wd_216 : ex_W (.declares ⟨"java/lang/Exception", "<init>", "(Ljava/lang/String;)V"⟩) := ⟨List.mem_append_right _ (List.mem_of_getElem? (i := 216) rfl), rfl⟩
theorem wd_217 : ex_W (.declares ⟨"java/lang/Throwable", "<init>", "()V"⟩) := ⟨List.mem_append_right _ (List.mem_of_getElem? (i := 217) rfl), rfl⟩
theorem wd_218 : ex_W (.declares ⟨"java/lang/Throwable", "<init>", "(Ljava/lang/String;)V"⟩) := ⟨List.mem_append_right _ (List.mem_of_getElem? (i := 218) rfl), rfl⟩
theorem wd_219 : ex_W (.selects "java/lang/IllegalArgumentException" ⟨"java/lang/Throwable", "fillInStackTrace", "(I)Ljava/lang/Throwable;"⟩ ⟨"java/lang/Throwable", "fillInStackTrace", "(I)Ljava/lang/Throwable;"⟩) := ⟨List.mem_append_right _ (List.mem_of_getElem? (i := 219) rfl), rfl⟩
theorem wd_220 : ex_W (.selects "java/lang/IllegalArgumentException" ⟨"java/lang/Throwable", "fillInStackTrace", "()Ljava/lang/Throwable;"⟩ ⟨"java/lang/Throwable", "fillInStackTrace", "()Ljava/lang/Throwable;"⟩) := ⟨List.mem_append_right _ (List.mem_of_getElem? (i := 220) rfl), rfl⟩
theorem wd_221 : ex_W (.lays "java/lang/IllegalArgumentException" "java/lang/Throwable" "cause" "Ljava/lang/Throwable;") := ⟨List.mem_append_right _ (List.mem_of_getElem? (i := 221) rfl), rfl⟩
theorem wd_222 : ex_W (.lays "java/lang/Throwable" "java/lang/Throwable" "cause" "Ljava/lang/Throwable;") := ⟨List.mem_append_right _ (List.mem_of_getElem? (i := 222) rfl), rfl⟩
theorem wd_223 : ex_W (.lays "java/lang/IllegalArgumentException" "java/lang/Throwable" "stackTrace" "[Ljava/lang/StackTraceElement;") := ⟨List.mem_append_right _ (List.mem_of_getElem? (i := 223) rfl), rfl⟩
theorem wd_224 : ex_W (.lays "java/lang/Throwable" "java/lang/Throwable" "stackTrace" "[Ljava/lang/StackTraceElement;") := ⟨List.mem_append_right _ (List.mem_of_getElem? (i := 224) rfl), rfl⟩
theorem wd_225 : ex_W (.lays "java/lang/IllegalArgumentException" "java/lang/Throwable" "suppressedExceptions" "Ljava/util/List;") := ⟨List.mem_append_right _ (List.mem_of_getElem? (i := 225) rfl), rfl⟩
theorem wd_226 : ex_W (.lays "java/lang/Throwable" "java/lang/Throwable" "suppressedExceptions" "Ljava/util/List;") := ⟨List.mem_append_right _ (List.mem_of_getElem? (i := 226) rfl), rfl⟩
theorem wd_227 : ex_W (.lays "java/lang/IllegalArgumentException" "java/lang/Throwable" "detailMessage" "Ljava/lang/String;") := ⟨List.mem_append_right _ (List.mem_of_getElem? (i := 227) rfl), rfl⟩
theorem wd_228 : ex_W (.lays "java/lang/Throwable" "java/lang/Throwable" "detailMessage" "Ljava/lang/String;") := ⟨List.mem_append_right _ (List.mem_of_getElem? (i := 228) rfl), rfl⟩
theorem wd_229 : ex_W (.lays "java/lang/IllegalArgumentException" "java/lang/Throwable" "backtrace" "Ljava/lang/Object;") := ⟨List.mem_append_right _ (List.mem_of_getElem? (i := 229) rfl), rfl⟩
theorem wd_230 : ex_W (.lays "java/lang/Throwable" "java/lang/Throwable" "backtrace" "Ljava/lang/Object;") := ⟨List.mem_append_right _ (List.mem_of_getElem? (i := 230) rfl), rfl⟩
theorem wd_231 : ex_W (.fieldLink "java/lang/Throwable" 198 "java/lang/Throwable" "backtrace" "Ljava/lang/Object;") := ⟨List.mem_append_right _ (List.mem_of_getElem? (i := 231) rfl), rfl⟩
theorem wd_232 : ex_W (.superclass "java/lang/Throwable" "java/lang/Object") := ⟨List.mem_append_right _ (List.mem_of_getElem? (i := 232) rfl), rfl⟩
theorem wd_233 : ex_W (.instanceMethod ⟨"java/lang/Throwable", "<init>", "()V"⟩) := ⟨List.mem_append_right _ (List.mem_of_getElem? (i := 233) rfl), rfl⟩
theorem wd_234 : ex_W (.code ⟨"java/lang/Throwable", "<init>", "()V"⟩ prog_19_method_1_code 1 none) := ⟨List.mem_append_right _ (List.mem_of_getElem? (i := 234) rfl), rfl⟩
theorem wd_235 : ex_W (.methodLink "java/lang/Throwable" 1 ⟨"java/lang/Object", "<init>", "()V"⟩) := ⟨List.mem_append_right _ (List.mem_of_getElem? (i := 235) rfl), rfl⟩
theorem wd_236 : ex_W (.fieldLink "java/lang/Throwable" 13 "java/lang/Throwable" "UNASSIGNED_STACK" "[Ljava/lang/StackTraceElement;") := ⟨List.mem_append_right _ (List.mem_of_getElem? (i := 236) rfl), rfl⟩
theorem wd_238 : ex_W (.fieldLink "java/lang/Throwable" 20 "java/lang/Throwable" "SUPPRESSED_SENTINEL" "Ljava/util/List;") := ⟨List.mem_append_right _ (List.mem_of_getElem? (i := 238) rfl), rfl⟩
theorem wd_240 : ex_W (.methodLink "java/lang/Throwable" 27 ⟨"java/lang/Throwable", "fillInStackTrace", "()Ljava/lang/Throwable;"⟩) := ⟨List.mem_append_right _ (List.mem_of_getElem? (i := 240) rfl), rfl⟩
theorem wd_241 : ex_W (.instanceMethod ⟨"java/lang/Throwable", "fillInStackTrace", "()Ljava/lang/Throwable;"⟩) := ⟨List.mem_append_right _ (List.mem_of_getElem? (i := 241) rfl), rfl⟩
theorem wd_242 : ex_W (.sameMethod "java/lang/Throwable" "java/lang/Throwable" "fillInStackTrace" "()Ljava/lang/Throwable;") := ⟨List.mem_append_right _ (List.mem_of_getElem? (i := 242) rfl), rfl⟩
theorem wd_243 : ex_W (.selects "java/lang/IllegalStateException" ⟨"java/lang/Throwable", "fillInStackTrace", "()Ljava/lang/Throwable;"⟩ ⟨"java/lang/Throwable", "fillInStackTrace", "()Ljava/lang/Throwable;"⟩) := ⟨List.mem_append_right _ (List.mem_of_getElem? (i := 243) rfl), rfl⟩
theorem wd_244 : ex_W (.selects "java/lang/UnsupportedOperationException" ⟨"java/lang/Throwable", "fillInStackTrace", "()Ljava/lang/Throwable;"⟩ ⟨"java/lang/Throwable", "fillInStackTrace", "()Ljava/lang/Throwable;"⟩) := ⟨List.mem_append_right _ (List.mem_of_getElem? (i := 244) rfl), rfl⟩
theorem wd_245 : ex_W (.selects "java/util/NoSuchElementException" ⟨"java/lang/Throwable", "fillInStackTrace", "()Ljava/lang/Throwable;"⟩ ⟨"java/lang/Throwable", "fillInStackTrace", "()Ljava/lang/Throwable;"⟩) := ⟨List.mem_append_right _ (List.mem_of_getElem? (i := 245) rfl), rfl⟩
theorem wd_246 : ex_W (.codeSync ⟨"java/lang/Throwable", "fillInStackTrace", "()Ljava/lang/Throwable;"⟩ prog_19_method_18_code 1 (some (FieldType.object "java/lang/Throwable"))) := ⟨List.mem_append_right _ (List.mem_of_getElem? (i := 246) rfl), rfl⟩
theorem wd_247 : ex_W (.methodLink "java/lang/Throwable" 202 ⟨"java/lang/Throwable", "fillInStackTrace", "(I)Ljava/lang/Throwable;"⟩) := ⟨List.mem_append_right _ (List.mem_of_getElem? (i := 247) rfl), rfl⟩
theorem wd_249 : ex_W (.instanceMethod ⟨"java/lang/Throwable", "fillInStackTrace", "(I)Ljava/lang/Throwable;"⟩) := ⟨List.mem_append_right _ (List.mem_of_getElem? (i := 249) rfl), rfl⟩
theorem wd_250 : ex_W (.instantiable "java/lang/Throwable" 6) := ⟨List.mem_append_right _ (List.mem_of_getElem? (i := 250) rfl), rfl⟩
theorem wd_251 : ex_W (.native ⟨"java/lang/Throwable", "fillInStackTrace", "(I)Ljava/lang/Throwable;"⟩) := ⟨List.mem_append_right _ (List.mem_of_getElem? (i := 251) rfl), rfl⟩
theorem wd_252 : ex_W (.methodLink "StreamTower" 44 ⟨"java/lang/IllegalArgumentException", "<init>", "()V"⟩) := ⟨List.mem_append_right _ (List.mem_of_getElem? (i := 252) rfl), rfl⟩
theorem wd_253 : ex_W (.instanceMethod ⟨"java/lang/IllegalArgumentException", "<init>", "()V"⟩) := ⟨List.mem_append_right _ (List.mem_of_getElem? (i := 253) rfl), rfl⟩
theorem wd_254 : ex_W (.code ⟨"java/lang/IllegalArgumentException", "<init>", "()V"⟩ prog_14_method_1_code 1 none) := ⟨List.mem_append_right _ (List.mem_of_getElem? (i := 254) rfl), rfl⟩
theorem wd_255 : ex_W (.methodLink "java/lang/IllegalArgumentException" 1 ⟨"java/lang/RuntimeException", "<init>", "()V"⟩) := ⟨List.mem_append_right _ (List.mem_of_getElem? (i := 255) rfl), rfl⟩
theorem wd_256 : ex_W (.instanceMethod ⟨"java/lang/RuntimeException", "<init>", "()V"⟩) := ⟨List.mem_append_right _ (List.mem_of_getElem? (i := 256) rfl), rfl⟩
theorem wd_257 : ex_W (.code ⟨"java/lang/RuntimeException", "<init>", "()V"⟩ prog_17_method_1_code 1 none) := ⟨List.mem_append_right _ (List.mem_of_getElem? (i := 257) rfl), rfl⟩
theorem wd_258 : ex_W (.methodLink "java/lang/RuntimeException" 1 ⟨"java/lang/Exception", "<init>", "()V"⟩) := ⟨List.mem_append_right _ (List.mem_of_getElem? (i := 258) rfl), rfl⟩
theorem wd_259 : ex_W (.instanceMethod ⟨"java/lang/Exception", "<init>", "()V"⟩) := ⟨List.mem_append_right _ (List.mem_of_getElem? (i := 259) rfl), rfl⟩
theorem wd_260 : ex_W (.code ⟨"java/lang/Exception", "<init>", "()V"⟩ prog_13_method_1_code 1 none) := ⟨List.mem_append_right _ (List.mem_of_getElem? (i := 260) rfl), rfl⟩
theorem wd_261 : ex_W (.methodLink "java/lang/Exception" 1 ⟨"java/lang/Throwable", "<init>", "()V"⟩) := ⟨List.mem_append_right _ (List.mem_of_getElem? (i := 261) rfl), rfl⟩
theorem wd_263 : ex_W (.fieldLink "java/lang/Throwable" 7 "java/lang/Throwable" "cause" "Ljava/lang/Throwable;") := ⟨List.mem_append_right _ (List.mem_of_getElem? (i := 263) rfl), rfl⟩
theorem wd_264 : ex_W (.fieldLink "java/lang/Throwable" 17 "java/lang/Throwable" "stackTrace" "[Ljava/lang/StackTraceElement;") := ⟨List.mem_append_right _ (List.mem_of_getElem? (i := 264) rfl), rfl⟩
theorem wd_265 : ex_W (.fieldLink "java/lang/Throwable" 24 "java/lang/Throwable" "suppressedExceptions" "Ljava/util/List;") := ⟨List.mem_append_right _ (List.mem_of_getElem? (i := 265) rfl), rfl⟩
theorem wd_266 : ex_W (.soleField "java/lang/Throwable" "backtrace") := ⟨List.mem_append_right _ (List.mem_of_getElem? (i := 266) rfl), rfl⟩
theorem wd_267 : ex_W (.soleField "java/lang/Throwable" "detailMessage") := ⟨List.mem_append_right _ (List.mem_of_getElem? (i := 267) rfl), rfl⟩
theorem wd_268 : ex_W (.soleField "java/lang/Throwable" "cause") := ⟨List.mem_append_right _ (List.mem_of_getElem? (i := 268) rfl), rfl⟩
theorem wd_269 : ex_W (.soleField "java/lang/Throwable" "stackTrace") := ⟨List.mem_append_right _ (List.mem_of_getElem? (i := 269) rfl), rfl⟩
theorem wd_270 : ex_W (.lays "java/lang/IllegalArgumentException" "java/lang/Throwable" "depth" "I") := ⟨List.mem_append_right _ (List.mem_of_getElem? (i := 270) rfl), rfl⟩
theorem wd_271 : ex_W (.soleField "java/lang/Throwable" "depth") := ⟨List.mem_append_right _ (List.mem_of_getElem? (i := 271) rfl), rfl⟩
theorem wd_272 : ex_W (.soleField "java/lang/Throwable" "suppressedExceptions") := ⟨List.mem_append_right _ (List.mem_of_getElem? (i := 272) rfl), rfl⟩
theorem wd_273 : ex_W (.superclass "java/lang/IllegalArgumentException" "java/lang/RuntimeException") := ⟨List.mem_append_right _ (List.mem_of_getElem? (i := 273) rfl), rfl⟩
theorem wd_274 : ex_W (.methodLink "StreamTower" 45 ⟨"StreamTower$Source", "hasRoomFor", "(I)Z"⟩) := ⟨List.mem_append_right _ (List.mem_of_getElem? (i := 274) rfl), rfl⟩
theorem wd_275 : ex_W (.instanceMethod ⟨"StreamTower$Source", "hasRoomFor", "(I)Z"⟩) := ⟨List.mem_append_right _ (List.mem_of_getElem? (i := 275) rfl), rfl⟩
theorem wd_276 : ex_W (.selects "StreamTower$Source" ⟨"StreamTower$Source", "hasRoomFor", "(I)Z"⟩ ⟨"StreamTower$Source", "hasRoomFor", "(I)Z"⟩) := ⟨List.mem_append_right _ (List.mem_of_getElem? (i := 276) rfl), rfl⟩
theorem wd_277 : ex_W (.code ⟨"StreamTower$Source", "hasRoomFor", "(I)Z"⟩ prog_9_method_2_code 2 (some FieldType.boolean)) := ⟨List.mem_append_right _ (List.mem_of_getElem? (i := 277) rfl), rfl⟩
theorem wd_278 : ex_W (.classLink "StreamTower" 49 "java/lang/IllegalStateException") := ⟨List.mem_append_right _ (List.mem_of_getElem? (i := 278) rfl), rfl⟩
theorem wd_279 : ex_W (.instantiable "java/lang/IllegalStateException" 6) := ⟨List.mem_append_right _ (List.mem_of_getElem? (i := 279) rfl), rfl⟩
theorem wd_280 : ex_W (.castable "java/lang/IllegalStateException" "java/lang/IllegalStateException") := ⟨List.mem_append_right _ (List.mem_of_getElem? (i := 280) rfl), rfl⟩
theorem wd_281 : ex_W (.selects "java/lang/IllegalStateException" ⟨"java/lang/Throwable", "fillInStackTrace", "(I)Ljava/lang/Throwable;"⟩ ⟨"java/lang/Throwable", "fillInStackTrace", "(I)Ljava/lang/Throwable;"⟩) := ⟨List.mem_append_right _ (List.mem_of_getElem? (i := 281) rfl), rfl⟩
theorem wd_282 : ex_W (.lays "java/lang/IllegalStateException" "java/lang/Throwable" "cause" "Ljava/lang/Throwable;") := ⟨List.mem_append_right _ (List.mem_of_getElem? (i := 282) rfl), rfl⟩
theorem wd_283 : ex_W (.lays "java/lang/IllegalStateException" "java/lang/Throwable" "stackTrace" "[Ljava/lang/StackTraceElement;") := ⟨List.mem_append_right _ (List.mem_of_getElem? (i := 283) rfl), rfl⟩
theorem wd_284 : ex_W (.lays "java/lang/IllegalStateException" "java/lang/Throwable" "suppressedExceptions" "Ljava/util/List;") := ⟨List.mem_append_right _ (List.mem_of_getElem? (i := 284) rfl), rfl⟩
theorem wd_285 : ex_W (.lays "java/lang/IllegalStateException" "java/lang/Throwable" "detailMessage" "Ljava/lang/String;") := ⟨List.mem_append_right _ (List.mem_of_getElem? (i := 285) rfl), rfl⟩
theorem wd_286 : ex_W (.lays "java/lang/IllegalStateException" "java/lang/Throwable" "backtrace" "Ljava/lang/Object;") := ⟨List.mem_append_right _ (List.mem_of_getElem? (i := 286) rfl), rfl⟩
theorem wd_287 : ex_W (.methodLink "StreamTower" 51 ⟨"java/lang/IllegalStateException", "<init>", "()V"⟩) := ⟨List.mem_append_right _ (List.mem_of_getElem? (i := 287) rfl), rfl⟩
theorem wd_288 : ex_W (.instanceMethod ⟨"java/lang/IllegalStateException", "<init>", "()V"⟩) := ⟨List.mem_append_right _ (List.mem_of_getElem? (i := 288) rfl), rfl⟩
theorem wd_289 : ex_W (.code ⟨"java/lang/IllegalStateException", "<init>", "()V"⟩ prog_15_method_1_code 1 none) := ⟨List.mem_append_right _ (List.mem_of_getElem? (i := 289) rfl), rfl⟩
theorem wd_290 : ex_W (.methodLink "java/lang/IllegalStateException" 1 ⟨"java/lang/RuntimeException", "<init>", "()V"⟩) := ⟨List.mem_append_right _ (List.mem_of_getElem? (i := 290) rfl), rfl⟩
theorem wd_291 : ex_W (.lays "java/lang/IllegalStateException" "java/lang/Throwable" "depth" "I") := ⟨List.mem_append_right _ (List.mem_of_getElem? (i := 291) rfl), rfl⟩
theorem wd_292 : ex_W (.superclass "java/lang/IllegalStateException" "java/lang/RuntimeException") := ⟨List.mem_append_right _ (List.mem_of_getElem? (i := 292) rfl), rfl⟩
theorem wd_293 : ex_W (.methodLink "StreamTower" 52 ⟨"StreamTower$Source", "append", "(I)V"⟩) := ⟨List.mem_append_right _ (List.mem_of_getElem? (i := 293) rfl), rfl⟩
theorem wd_294 : ex_W (.instanceMethod ⟨"StreamTower$Source", "append", "(I)V"⟩) := ⟨List.mem_append_right _ (List.mem_of_getElem? (i := 294) rfl), rfl⟩
theorem wd_295 : ex_W (.selects "StreamTower$Source" ⟨"StreamTower$Source", "append", "(I)V"⟩ ⟨"StreamTower$Source", "append", "(I)V"⟩) := ⟨List.mem_append_right _ (List.mem_of_getElem? (i := 295) rfl), rfl⟩
theorem wd_296 : ex_W (.code ⟨"StreamTower$Source", "append", "(I)V"⟩ prog_9_method_3_code 2 none) := ⟨List.mem_append_right _ (List.mem_of_getElem? (i := 296) rfl), rfl⟩
theorem wd_297 : ex_W (.methodLink "StreamTower$Source" 26 ⟨"StreamTower$Source", "hasRoomFor", "(I)Z"⟩) := ⟨List.mem_append_right _ (List.mem_of_getElem? (i := 297) rfl), rfl⟩
theorem wd_298 : ex_W (.methodLink "StreamTowerLaw" 80 ⟨"StreamTowerLaw", "push", "(LStreamTower;II[J)I"⟩) := ⟨List.mem_append_right _ (List.mem_of_getElem? (i := 298) rfl), rfl⟩
theorem wd_299 : ex_W (.static ⟨"StreamTowerLaw", "push", "(LStreamTower;II[J)I"⟩) := ⟨List.mem_append_right _ (List.mem_of_getElem? (i := 299) rfl), rfl⟩
theorem wd_300 : ex_W (.codeWith ⟨"StreamTowerLaw", "push", "(LStreamTower;II[J)I"⟩ method_4_code 5 (some FieldType.int) [(0, 10, 13, 13), (0, 10, 17, 15)]) := ⟨List.mem_append_right _ (List.mem_of_getElem? (i := 300) rfl), rfl⟩
set_option maxRecDepth 10000 in
theorem wd_301 : ex_W (.methodLink "StreamTowerLaw" 17 ⟨"StreamTower", "push", "(II)I"⟩) := ⟨List.mem_append_right _ (List.mem_of_getElem? (i := 301) rfl), rfl⟩
set_option maxRecDepth 10000 in
theorem wd_302 : ex_W (.instanceMethod ⟨"StreamTower", "push", "(II)I"⟩) := ⟨List.mem_append_right _ (List.mem_of_getElem? (i := 302) rfl), rfl⟩
set_option maxRecDepth 10000 in
theorem wd_303 : ex_W (.selects "StreamTower" ⟨"StreamTower", "push", "(II)I"⟩ ⟨"StreamTower", "push", "(II)I"⟩) := ⟨List.mem_append_right _ (List.mem_of_getElem? (i := 303) rfl), rfl⟩
set_option maxRecDepth 10000 in
theorem wd_304 : ex_W (.code ⟨"StreamTower", "push", "(II)I"⟩ prog_1_method_5_code 3 (some FieldType.int)) := ⟨List.mem_append_right _ (List.mem_of_getElem? (i := 304) rfl), rfl⟩
set_option maxRecDepth 10000 in
theorem wd_305 : ex_W (.methodLink "StreamTower" 68 ⟨"StreamTower", "isSizeOfKind", "(II)Z"⟩) := ⟨List.mem_append_right _ (List.mem_of_getElem? (i := 305) rfl), rfl⟩
set_option maxRecDepth 10000 in
theorem wd_306 : ex_W (.static ⟨"StreamTower", "isSizeOfKind", "(II)Z"⟩) := ⟨List.mem_append_right _ (List.mem_of_getElem? (i := 306) rfl), rfl⟩
set_option maxRecDepth 10000 in
theorem wd_307 : ex_W (.code ⟨"StreamTower", "isSizeOfKind", "(II)Z"⟩ prog_1_method_22_code 2 (some FieldType.boolean)) := ⟨List.mem_append_right _ (List.mem_of_getElem? (i := 307) rfl), rfl⟩
set_option maxRecDepth 10000 in
theorem wd_308 : ex_W (.methodLink "StreamTower" 79 ⟨"StreamTower", "layerOver", "(LStreamTower$Stream;II)LStreamTower$Stream;"⟩) := ⟨List.mem_append_right _ (List.mem_of_getElem? (i := 308) rfl), rfl⟩
set_option maxRecDepth 10000 in
theorem wd_309 : ex_W (.static ⟨"StreamTower", "layerOver", "(LStreamTower$Stream;II)LStreamTower$Stream;"⟩) := ⟨List.mem_append_right _ (List.mem_of_getElem? (i := 309) rfl), rfl⟩
set_option maxRecDepth 10000 in
theorem wd_310 : ex_W (.code ⟨"StreamTower", "layerOver", "(LStreamTower$Stream;II)LStreamTower$Stream;"⟩ prog_1_method_23_code 3 (some (FieldType.object "StreamTower$Stream"))) := ⟨List.mem_append_right _ (List.mem_of_getElem? (i := 310) rfl), rfl⟩
set_option maxRecDepth 10000 in
theorem wd_311 : ex_W (.classLink "StreamTower" 157 "StreamTower$Buffer") := ⟨List.mem_append_right _ (List.mem_of_getElem? (i := 311) rfl), rfl⟩
set_option maxRecDepth 10000 in
theorem wd_312 : ex_W (.instantiable "StreamTower$Buffer" 8) := ⟨List.mem_append_right _ (List.mem_of_getElem? (i := 312) rfl), rfl⟩
set_option maxRecDepth 10000 in
theorem wd_313 : ex_W (.methodLink "StreamTower" 159 ⟨"StreamTower$Buffer", "<init>", "(LStreamTower$Stream;I)V"⟩) := ⟨List.mem_append_right _ (List.mem_of_getElem? (i := 313) rfl), rfl⟩
set_option maxRecDepth 10000 in
theorem wd_314 : ex_W (.instanceMethod ⟨"StreamTower$Buffer", "<init>", "(LStreamTower$Stream;I)V"⟩) := ⟨List.mem_append_right _ (List.mem_of_getElem? (i := 314) rfl), rfl⟩
set_option maxRecDepth 10000 in
theorem wd_315 : ex_W (.code ⟨"StreamTower$Buffer", "<init>", "(LStreamTower$Stream;I)V"⟩ prog_2_method_1_code 3 none) := ⟨List.mem_append_right _ (List.mem_of_getElem? (i := 315) rfl), rfl⟩
set_option maxRecDepth 10000 in
theorem wd_316 : ex_W (.methodLinkNest "StreamTower$Buffer" 3 ⟨"StreamTower$Stream", "<init>", "()V"⟩ "StreamTower") := ⟨List.mem_append_right _ (List.mem_of_getElem? (i := 316) rfl), rfl⟩
set_option maxRecDepth 10000 in
theorem wd_317 : ex_W (.fieldLink "StreamTower$Buffer" 9 "StreamTower$Buffer" "below" "LStreamTower$Stream;") := ⟨List.mem_append_right _ (List.mem_of_getElem? (i := 317) rfl), rfl⟩
set_option maxRecDepth 10000 in
theorem wd_318 : ex_W (.fieldLink "StreamTower$Buffer" 15 "StreamTower$Buffer" "room" "I") := ⟨List.mem_append_right _ (List.mem_of_getElem? (i := 318) rfl), rfl⟩
set_option maxRecDepth 10000 in
theorem wd_319 : ex_W (.fieldLink "StreamTower$Buffer" 19 "StreamTower$Buffer" "kept" "[I") := ⟨List.mem_append_right _ (List.mem_of_getElem? (i := 319) rfl), rfl⟩
set_option maxRecDepth 10000 in
theorem wd_320 : ex_W (.fieldLink "StreamTower$Buffer" 56 "StreamTower$Buffer" "first" "I") := ⟨List.mem_append_right _ (List.mem_of_getElem? (i := 320) rfl), rfl⟩
set_option maxRecDepth 10000 in
theorem wd_321 : ex_W (.fieldLink "StreamTower$Buffer" 23 "StreamTower$Buffer" "next" "I") := ⟨List.mem_append_right _ (List.mem_of_getElem? (i := 321) rfl), rfl⟩
set_option maxRecDepth 10000 in
theorem wd_322 : ex_W (.fieldLink "StreamTower$Buffer" 26 "StreamTower$Buffer" "end" "I") := ⟨List.mem_append_right _ (List.mem_of_getElem? (i := 322) rfl), rfl⟩
set_option maxRecDepth 10000 in
theorem wd_323 : ex_W (.fieldLink "StreamTower$Buffer" 29 "StreamTower$Buffer" "marked" "Z") := ⟨List.mem_append_right _ (List.mem_of_getElem? (i := 323) rfl), rfl⟩
set_option maxRecDepth 10000 in
theorem wd_324 : ex_W (.fieldLink "StreamTower$Buffer" 59 "StreamTower$Buffer" "markLimit" "I") := ⟨List.mem_append_right _ (List.mem_of_getElem? (i := 324) rfl), rfl⟩
set_option maxRecDepth 10000 in
theorem wd_325 : ex_W (.laysFinal "StreamTower$Buffer" "StreamTower$Buffer" "below" "LStreamTower$Stream;") := ⟨List.mem_append_right _ (List.mem_of_getElem? (i := 325) rfl), rfl⟩
set_option maxRecDepth 10000 in
theorem wd_326 : ex_W (.soleField "StreamTower$Buffer" "below") := ⟨List.mem_append_right _ (List.mem_of_getElem? (i := 326) rfl), rfl⟩
set_option maxRecDepth 10000 in
theorem wd_327 : ex_W (.laysFinal "StreamTower$Buffer" "StreamTower$Buffer" "room" "I") := ⟨List.mem_append_right _ (List.mem_of_getElem? (i := 327) rfl), rfl⟩
set_option maxRecDepth 10000 in
theorem wd_328 : ex_W (.soleField "StreamTower$Buffer" "room") := ⟨List.mem_append_right _ (List.mem_of_getElem? (i := 328) rfl), rfl⟩
set_option maxRecDepth 10000 in
theorem wd_329 : ex_W (.laysFinal "StreamTower$Buffer" "StreamTower$Buffer" "kept" "[I") := ⟨List.mem_append_right _ (List.mem_of_getElem? (i := 329) rfl), rfl⟩
set_option maxRecDepth 10000 in
theorem wd_330 : ex_W (.soleField "StreamTower$Buffer" "kept") := ⟨List.mem_append_right _ (List.mem_of_getElem? (i := 330) rfl), rfl⟩
set_option maxRecDepth 10000 in
theorem wd_331 : ex_W (.lays "StreamTower$Buffer" "StreamTower$Buffer" "first" "I") := ⟨List.mem_append_right _ (List.mem_of_getElem? (i := 331) rfl), rfl⟩
set_option maxRecDepth 10000 in
theorem wd_332 : ex_W (.soleField "StreamTower$Buffer" "first") := ⟨List.mem_append_right _ (List.mem_of_getElem? (i := 332) rfl), rfl⟩
set_option maxRecDepth 10000 in
theorem wd_333 : ex_W (.lays "StreamTower$Buffer" "StreamTower$Buffer" "next" "I") := ⟨List.mem_append_right _ (List.mem_of_getElem? (i := 333) rfl), rfl⟩
set_option maxRecDepth 10000 in
theorem wd_334 : ex_W (.soleField "StreamTower$Buffer" "next") := ⟨List.mem_append_right _ (List.mem_of_getElem? (i := 334) rfl), rfl⟩
set_option maxRecDepth 10000 in
theorem wd_335 : ex_W (.lays "StreamTower$Buffer" "StreamTower$Buffer" "end" "I") := ⟨List.mem_append_right _ (List.mem_of_getElem? (i := 335) rfl), rfl⟩
set_option maxRecDepth 10000 in
theorem wd_336 : ex_W (.soleField "StreamTower$Buffer" "end") := ⟨List.mem_append_right _ (List.mem_of_getElem? (i := 336) rfl), rfl⟩
set_option maxRecDepth 10000 in
theorem wd_337 : ex_W (.lays "StreamTower$Buffer" "StreamTower$Buffer" "marked" "Z") := ⟨List.mem_append_right _ (List.mem_of_getElem? (i := 337) rfl), rfl⟩
set_option maxRecDepth 10000 in
theorem wd_338 : ex_W (.soleField "StreamTower$Buffer" "marked") := ⟨List.mem_append_right _ (List.mem_of_getElem? (i := 338) rfl), rfl⟩
set_option maxRecDepth 10000 in
theorem wd_339 : ex_W (.lays "StreamTower$Buffer" "StreamTower$Buffer" "markLimit" "I") := ⟨List.mem_append_right _ (List.mem_of_getElem? (i := 339) rfl), rfl⟩
set_option maxRecDepth 10000 in
theorem wd_340 : ex_W (.soleField "StreamTower$Buffer" "markLimit") := ⟨List.mem_append_right _ (List.mem_of_getElem? (i := 340) rfl), rfl⟩
set_option maxRecDepth 10000 in
theorem wd_341 : ex_W (.superclass "StreamTower$Buffer" "StreamTower$Stream") := ⟨List.mem_append_right _ (List.mem_of_getElem? (i := 341) rfl), rfl⟩
set_option maxRecDepth 10000 in
theorem wd_342 : ex_W (.classLink "StreamTower" 140 "StreamTower$Pushback") := ⟨List.mem_append_right _ (List.mem_of_getElem? (i := 342) rfl), rfl⟩
set_option maxRecDepth 10000 in
theorem wd_343 : ex_W (.instantiable "StreamTower$Pushback" 3) := ⟨List.mem_append_right _ (List.mem_of_getElem? (i := 343) rfl), rfl⟩
set_option maxRecDepth 10000 in
theorem wd_344 : ex_W (.methodLink "StreamTower" 162 ⟨"StreamTower$Pushback", "<init>", "(LStreamTower$Stream;I)V"⟩) := ⟨List.mem_append_right _ (List.mem_of_getElem? (i := 344) rfl), rfl⟩
set_option maxRecDepth 10000 in
theorem wd_345 : ex_W (.instanceMethod ⟨"StreamTower$Pushback", "<init>", "(LStreamTower$Stream;I)V"⟩) := ⟨List.mem_append_right _ (List.mem_of_getElem? (i := 345) rfl), rfl⟩
set_option maxRecDepth 10000 in
theorem wd_346 : ex_W (.code ⟨"StreamTower$Pushback", "<init>", "(LStreamTower$Stream;I)V"⟩ prog_7_method_1_code 3 none) := ⟨List.mem_append_right _ (List.mem_of_getElem? (i := 346) rfl), rfl⟩
set_option maxRecDepth 10000 in
theorem wd_347 : ex_W (.methodLinkNest "StreamTower$Pushback" 1 ⟨"StreamTower$Stream", "<init>", "()V"⟩ "StreamTower") := ⟨List.mem_append_right _ (List.mem_of_getElem? (i := 347) rfl), rfl⟩
set_option maxRecDepth 10000 in
theorem wd_348 : ex_W (.fieldLink "StreamTower$Pushback" 7 "StreamTower$Pushback" "below" "LStreamTower$Stream;") := ⟨List.mem_append_right _ (List.mem_of_getElem? (i := 348) rfl), rfl⟩
set_option maxRecDepth 10000 in
theorem wd_349 : ex_W (.fieldLink "StreamTower$Pushback" 13 "StreamTower$Pushback" "bytes" "[I") := ⟨List.mem_append_right _ (List.mem_of_getElem? (i := 349) rfl), rfl⟩
set_option maxRecDepth 10000 in
theorem wd_350 : ex_W (.fieldLink "StreamTower$Pushback" 17 "StreamTower$Pushback" "count" "I") := ⟨List.mem_append_right _ (List.mem_of_getElem? (i := 350) rfl), rfl⟩
set_option maxRecDepth 10000 in
theorem wd_351 : ex_W (.laysFinal "StreamTower$Pushback" "StreamTower$Pushback" "below" "LStreamTower$Stream;") := ⟨List.mem_append_right _ (List.mem_of_getElem? (i := 351) rfl), rfl⟩
set_option maxRecDepth 10000 in
theorem wd_352 : ex_W (.soleField "StreamTower$Pushback" "below") := ⟨List.mem_append_right _ (List.mem_of_getElem? (i := 352) rfl), rfl⟩
set_option maxRecDepth 10000 in
theorem wd_353 : ex_W (.laysFinal "StreamTower$Pushback" "StreamTower$Pushback" "bytes" "[I") := ⟨List.mem_append_right _ (List.mem_of_getElem? (i := 353) rfl), rfl⟩
set_option maxRecDepth 10000 in
theorem wd_354 : ex_W (.soleField "StreamTower$Pushback" "bytes") := ⟨List.mem_append_right _ (List.mem_of_getElem? (i := 354) rfl), rfl⟩
set_option maxRecDepth 10000 in
theorem wd_355 : ex_W (.lays "StreamTower$Pushback" "StreamTower$Pushback" "count" "I") := ⟨List.mem_append_right _ (List.mem_of_getElem? (i := 355) rfl), rfl⟩
set_option maxRecDepth 10000 in
theorem wd_356 : ex_W (.soleField "StreamTower$Pushback" "count") := ⟨List.mem_append_right _ (List.mem_of_getElem? (i := 356) rfl), rfl⟩
set_option maxRecDepth 10000 in
theorem wd_357 : ex_W (.superclass "StreamTower$Pushback" "StreamTower$Stream") := ⟨List.mem_append_right _ (List.mem_of_getElem? (i := 357) rfl), rfl⟩
set_option maxRecDepth 10000 in
theorem wd_358 : ex_W (.classLink "StreamTower" 163 "StreamTower$Limit") := ⟨List.mem_append_right _ (List.mem_of_getElem? (i := 358) rfl), rfl⟩
set_option maxRecDepth 10000 in
theorem wd_359 : ex_W (.instantiable "StreamTower$Limit" 3) := ⟨List.mem_append_right _ (List.mem_of_getElem? (i := 359) rfl), rfl⟩
set_option maxRecDepth 10000 in
theorem wd_360 : ex_W (.methodLink "StreamTower" 165 ⟨"StreamTower$Limit", "<init>", "(LStreamTower$Stream;I)V"⟩) := ⟨List.mem_append_right _ (List.mem_of_getElem? (i := 360) rfl), rfl⟩
set_option maxRecDepth 10000 in
theorem wd_361 : ex_W (.instanceMethod ⟨"StreamTower$Limit", "<init>", "(LStreamTower$Stream;I)V"⟩) := ⟨List.mem_append_right _ (List.mem_of_getElem? (i := 361) rfl), rfl⟩
set_option maxRecDepth 10000 in
theorem wd_362 : ex_W (.code ⟨"StreamTower$Limit", "<init>", "(LStreamTower$Stream;I)V"⟩ prog_4_method_1_code 3 none) := ⟨List.mem_append_right _ (List.mem_of_getElem? (i := 362) rfl), rfl⟩
set_option maxRecDepth 10000 in
theorem wd_363 : ex_W (.methodLink "StreamTower$Limit" 3 ⟨"StreamTower$Passing", "<init>", "(LStreamTower$Stream;)V"⟩) := ⟨List.mem_append_right _ (List.mem_of_getElem? (i := 363) rfl), rfl⟩
set_option maxRecDepth 10000 in
theorem wd_364 : ex_W (.instanceMethod ⟨"StreamTower$Passing", "<init>", "(LStreamTower$Stream;)V"⟩) := ⟨List.mem_append_right _ (List.mem_of_getElem? (i := 364) rfl), rfl⟩
set_option maxRecDepth 10000 in
theorem wd_365 : ex_W (.code ⟨"StreamTower$Passing", "<init>", "(LStreamTower$Stream;)V"⟩ prog_6_method_1_code 2 none) := ⟨List.mem_append_right _ (List.mem_of_getElem? (i := 365) rfl), rfl⟩
set_option maxRecDepth 10000 in
theorem wd_366 : ex_W (.methodLinkNest "StreamTower$Passing" 1 ⟨"StreamTower$Stream", "<init>", "()V"⟩ "StreamTower") := ⟨List.mem_append_right _ (List.mem_of_getElem? (i := 366) rfl), rfl⟩
set_option maxRecDepth 10000 in
theorem wd_367 : ex_W (.fieldLink "StreamTower$Limit" 9 "StreamTower$Limit" "left" "I") := ⟨List.mem_append_right _ (List.mem_of_getElem? (i := 367) rfl), rfl⟩
set_option maxRecDepth 10000 in
theorem wd_368 : ex_W (.fieldLink "StreamTower$Limit" 15 "StreamTower$Limit" "leftAtMark" "I") := ⟨List.mem_append_right _ (List.mem_of_getElem? (i := 368) rfl), rfl⟩
set_option maxRecDepth 10000 in
theorem wd_369 : ex_W (.fieldLink "StreamTower$Passing" 7 "StreamTower$Passing" "below" "LStreamTower$Stream;") := ⟨List.mem_append_right _ (List.mem_of_getElem? (i := 369) rfl), rfl⟩
set_option maxRecDepth 10000 in
theorem wd_370 : ex_W (.fieldLink "StreamTower$Code" 15 "StreamTower$Code" "below" "LStreamTower$Stream;") := ⟨List.mem_append_right _ (List.mem_of_getElem? (i := 370) rfl), rfl⟩
set_option maxRecDepth 10000 in
theorem wd_371 : ex_W (.sameField "StreamTower$Code" "StreamTower$Passing" "below" "LStreamTower$Stream;") := ⟨List.mem_append_right _ (List.mem_of_getElem? (i := 371) rfl), rfl⟩
set_option maxRecDepth 10000 in
theorem wd_372 : ex_W (.fieldLink "StreamTower$Lines" 9 "StreamTower$Lines" "below" "LStreamTower$Stream;") := ⟨List.mem_append_right _ (List.mem_of_getElem? (i := 372) rfl), rfl⟩
set_option maxRecDepth 10000 in
theorem wd_373 : ex_W (.sameField "StreamTower$Lines" "StreamTower$Passing" "below" "LStreamTower$Stream;") := ⟨List.mem_append_right _ (List.mem_of_getElem? (i := 373) rfl), rfl⟩
set_option maxRecDepth 10000 in
theorem wd_374 : ex_W (.fieldLink "StreamTower$Limit" 18 "StreamTower$Limit" "below" "LStreamTower$Stream;") := ⟨List.mem_append_right _ (List.mem_of_getElem? (i := 374) rfl), rfl⟩
set_option maxRecDepth 10000 in
theorem wd_375 : ex_W (.sameField "StreamTower$Limit" "StreamTower$Passing" "below" "LStreamTower$Stream;") := ⟨List.mem_append_right _ (List.mem_of_getElem? (i := 375) rfl), rfl⟩
set_option maxRecDepth 10000 in
theorem wd_376 : ex_W (.lays "StreamTower$Limit" "StreamTower$Limit" "left" "I") := ⟨List.mem_append_right _ (List.mem_of_getElem? (i := 376) rfl), rfl⟩
set_option maxRecDepth 10000 in
theorem wd_377 : ex_W (.soleField "StreamTower$Limit" "left") := ⟨List.mem_append_right _ (List.mem_of_getElem? (i := 377) rfl), rfl⟩
set_option maxRecDepth 10000 in
theorem wd_378 : ex_W (.lays "StreamTower$Limit" "StreamTower$Limit" "leftAtMark" "I") := ⟨List.mem_append_right _ (List.mem_of_getElem? (i := 378) rfl), rfl⟩
set_option maxRecDepth 10000 in
theorem wd_379 : ex_W (.soleField "StreamTower$Limit" "leftAtMark") := ⟨List.mem_append_right _ (List.mem_of_getElem? (i := 379) rfl), rfl⟩
set_option maxRecDepth 10000 in
theorem wd_380 : ex_W (.laysFinal "StreamTower$Limit" "StreamTower$Passing" "below" "LStreamTower$Stream;") := ⟨List.mem_append_right _ (List.mem_of_getElem? (i := 380) rfl), rfl⟩
set_option maxRecDepth 10000 in
theorem wd_381 : ex_W (.soleField "StreamTower$Passing" "below") := ⟨List.mem_append_right _ (List.mem_of_getElem? (i := 381) rfl), rfl⟩
set_option maxRecDepth 10000 in
theorem wd_382 : ex_W (.superclass "StreamTower$Limit" "StreamTower$Passing") := ⟨List.mem_append_right _ (List.mem_of_getElem? (i := 382) rfl), rfl⟩
set_option maxRecDepth 10000 in
theorem wd_383 : ex_W (.classLink "StreamTower" 166 "StreamTower$Code") := ⟨List.mem_append_right _ (List.mem_of_getElem? (i := 383) rfl), rfl⟩
set_option maxRecDepth 10000 in
theorem wd_384 : ex_W (.instantiable "StreamTower$Code" 4) := ⟨List.mem_append_right _ (List.mem_of_getElem? (i := 384) rfl), rfl⟩
set_option maxRecDepth 10000 in
theorem wd_385 : ex_W (.methodLink "StreamTower" 168 ⟨"StreamTower$Code", "<init>", "(LStreamTower$Stream;I)V"⟩) := ⟨List.mem_append_right _ (List.mem_of_getElem? (i := 385) rfl), rfl⟩
set_option maxRecDepth 10000 in
theorem wd_386 : ex_W (.instanceMethod ⟨"StreamTower$Code", "<init>", "(LStreamTower$Stream;I)V"⟩) := ⟨List.mem_append_right _ (List.mem_of_getElem? (i := 386) rfl), rfl⟩
set_option maxRecDepth 10000 in
theorem wd_387 : ex_W (.code ⟨"StreamTower$Code", "<init>", "(LStreamTower$Stream;I)V"⟩ prog_3_method_1_code 3 none) := ⟨List.mem_append_right _ (List.mem_of_getElem? (i := 387) rfl), rfl⟩
set_option maxRecDepth 10000 in
theorem wd_388 : ex_W (.methodLink "StreamTower$Code" 3 ⟨"StreamTower$Passing", "<init>", "(LStreamTower$Stream;)V"⟩) := ⟨List.mem_append_right _ (List.mem_of_getElem? (i := 388) rfl), rfl⟩
set_option maxRecDepth 10000 in
theorem wd_389 : ex_W (.fieldLink "StreamTower$Code" 9 "StreamTower$Code" "key" "I") := ⟨List.mem_append_right _ (List.mem_of_getElem? (i := 389) rfl), rfl⟩
set_option maxRecDepth 10000 in
theorem wd_390 : ex_W (.fieldLink "StreamTower$Code" 25 "StreamTower$Code" "coded" "I") := ⟨List.mem_append_right _ (List.mem_of_getElem? (i := 390) rfl), rfl⟩
set_option maxRecDepth 10000 in
theorem wd_391 : ex_W (.fieldLink "StreamTower$Code" 28 "StreamTower$Code" "codedAtMark" "I") := ⟨List.mem_append_right _ (List.mem_of_getElem? (i := 391) rfl), rfl⟩
set_option maxRecDepth 10000 in
theorem wd_392 : ex_W (.laysFinal "StreamTower$Code" "StreamTower$Code" "key" "I") := ⟨List.mem_append_right _ (List.mem_of_getElem? (i := 392) rfl), rfl⟩
set_option maxRecDepth 10000 in
theorem wd_393 : ex_W (.soleField "StreamTower$Code" "key") := ⟨List.mem_append_right _ (List.mem_of_getElem? (i := 393) rfl), rfl⟩
set_option maxRecDepth 10000 in
theorem wd_394 : ex_W (.lays "StreamTower$Code" "StreamTower$Code" "coded" "I") := ⟨List.mem_append_right _ (List.mem_of_getElem? (i := 394) rfl), rfl⟩
set_option maxRecDepth 10000 in
theorem wd_395 : ex_W (.soleField "StreamTower$Code" "coded") := ⟨List.mem_append_right _ (List.mem_of_getElem? (i := 395) rfl), rfl⟩
set_option maxRecDepth 10000 in
theorem wd_396 : ex_W (.lays "StreamTower$Code" "StreamTower$Code" "codedAtMark" "I") := ⟨List.mem_append_right _ (List.mem_of_getElem? (i := 396) rfl), rfl⟩
set_option maxRecDepth 10000 in
theorem wd_397 : ex_W (.soleField "StreamTower$Code" "codedAtMark") := ⟨List.mem_append_right _ (List.mem_of_getElem? (i := 397) rfl), rfl⟩
set_option maxRecDepth 10000 in
theorem wd_398 : ex_W (.laysFinal "StreamTower$Code" "StreamTower$Passing" "below" "LStreamTower$Stream;") := ⟨List.mem_append_right _ (List.mem_of_getElem? (i := 398) rfl), rfl⟩
set_option maxRecDepth 10000 in
theorem wd_399 : ex_W (.superclass "StreamTower$Code" "StreamTower$Passing") := ⟨List.mem_append_right _ (List.mem_of_getElem? (i := 399) rfl), rfl⟩
set_option maxRecDepth 10000 in
theorem wd_400 : ex_W (.classLink "StreamTower" 169 "StreamTower$Lines") := ⟨List.mem_append_right _ (List.mem_of_getElem? (i := 400) rfl), rfl⟩
set_option maxRecDepth 10000 in
theorem wd_401 : ex_W (.instantiable "StreamTower$Lines" 5) := ⟨List.mem_append_right _ (List.mem_of_getElem? (i := 401) rfl), rfl⟩
set_option maxRecDepth 10000 in
theorem wd_402 : ex_W (.methodLink "StreamTower" 171 ⟨"StreamTower$Lines", "<init>", "(LStreamTower$Stream;)V"⟩) := ⟨List.mem_append_right _ (List.mem_of_getElem? (i := 402) rfl), rfl⟩
set_option maxRecDepth 10000 in
theorem wd_403 : ex_W (.instanceMethod ⟨"StreamTower$Lines", "<init>", "(LStreamTower$Stream;)V"⟩) := ⟨List.mem_append_right _ (List.mem_of_getElem? (i := 403) rfl), rfl⟩
set_option maxRecDepth 10000 in
theorem wd_404 : ex_W (.code ⟨"StreamTower$Lines", "<init>", "(LStreamTower$Stream;)V"⟩ prog_5_method_1_code 2 none) := ⟨List.mem_append_right _ (List.mem_of_getElem? (i := 404) rfl), rfl⟩
set_option maxRecDepth 10000 in
theorem wd_405 : ex_W (.methodLink "StreamTower$Lines" 3 ⟨"StreamTower$Passing", "<init>", "(LStreamTower$Stream;)V"⟩) := ⟨List.mem_append_right _ (List.mem_of_getElem? (i := 405) rfl), rfl⟩
set_option maxRecDepth 10000 in
theorem wd_406 : ex_W (.fieldLink "StreamTower$Lines" 29 "StreamTower$Lines" "lineEnds" "I") := ⟨List.mem_append_right _ (List.mem_of_getElem? (i := 406) rfl), rfl⟩
set_option maxRecDepth 10000 in
theorem wd_407 : ex_W (.fieldLink "StreamTower$Lines" 33 "StreamTower$Lines" "lineEndsAtMark" "I") := ⟨List.mem_append_right _ (List.mem_of_getElem? (i := 407) rfl), rfl⟩
set_option maxRecDepth 10000 in
theorem wd_408 : ex_W (.fieldLink "StreamTower$Lines" 25 "StreamTower$Lines" "lastWasReturn" "Z") := ⟨List.mem_append_right _ (List.mem_of_getElem? (i := 408) rfl), rfl⟩
set_option maxRecDepth 10000 in
theorem wd_409 : ex_W (.fieldLink "StreamTower$Lines" 36 "StreamTower$Lines" "lastWasReturnAtMark" "Z") := ⟨List.mem_append_right _ (List.mem_of_getElem? (i := 409) rfl), rfl⟩
set_option maxRecDepth 10000 in
theorem wd_410 : ex_W (.lays "StreamTower$Lines" "StreamTower$Lines" "lineEnds" "I") := ⟨List.mem_append_right _ (List.mem_of_getElem? (i := 410) rfl), rfl⟩
set_option maxRecDepth 10000 in
theorem wd_411 : ex_W (.soleField "StreamTower$Lines" "lineEnds") := ⟨List.mem_append_right _ (List.mem_of_getElem? (i := 411) rfl), rfl⟩
set_option maxRecDepth 10000 in
theorem wd_412 : ex_W (.lays "StreamTower$Lines" "StreamTower$Lines" "lineEndsAtMark" "I") := ⟨List.mem_append_right _ (List.mem_of_getElem? (i := 412) rfl), rfl⟩
set_option maxRecDepth 10000 in
theorem wd_413 : ex_W (.soleField "StreamTower$Lines" "lineEndsAtMark") := ⟨List.mem_append_right _ (List.mem_of_getElem? (i := 413) rfl), rfl⟩
set_option maxRecDepth 10000 in
theorem wd_414 : ex_W (.lays "StreamTower$Lines" "StreamTower$Lines" "lastWasReturn" "Z") := ⟨List.mem_append_right _ (List.mem_of_getElem? (i := 414) rfl), rfl⟩
set_option maxRecDepth 10000 in
theorem wd_415 : ex_W (.soleField "StreamTower$Lines" "lastWasReturn") := ⟨List.mem_append_right _ (List.mem_of_getElem? (i := 415) rfl), rfl⟩
set_option maxRecDepth 10000 in
theorem wd_416 : ex_W (.lays "StreamTower$Lines" "StreamTower$Lines" "lastWasReturnAtMark" "Z") := ⟨List.mem_append_right _ (List.mem_of_getElem? (i := 416) rfl), rfl⟩
set_option maxRecDepth 10000 in
theorem wd_417 : ex_W (.soleField "StreamTower$Lines" "lastWasReturnAtMark") := ⟨List.mem_append_right _ (List.mem_of_getElem? (i := 417) rfl), rfl⟩
set_option maxRecDepth 10000 in
theorem wd_418 : ex_W (.laysFinal "StreamTower$Lines" "StreamTower$Passing" "below" "LStreamTower$Stream;") := ⟨List.mem_append_right _ (List.mem_of_getElem? (i := 418) rfl), rfl⟩
set_option maxRecDepth 10000 in
theorem wd_419 : ex_W (.superclass "StreamTower$Lines" "StreamTower$Passing") := ⟨List.mem_append_right _ (List.mem_of_getElem? (i := 419) rfl), rfl⟩
set_option maxRecDepth 10000 in
theorem wd_420 : ex_W (.methodLink "StreamTowerLaw" 83 ⟨"StreamTowerLaw", "read", "(LStreamTower;[J)I"⟩) := ⟨List.mem_append_right _ (List.mem_of_getElem? (i := 420) rfl), rfl⟩
set_option maxRecDepth 10000 in
theorem wd_421 : ex_W (.static ⟨"StreamTowerLaw", "read", "(LStreamTower;[J)I"⟩) := ⟨List.mem_append_right _ (List.mem_of_getElem? (i := 421) rfl), rfl⟩
set_option maxRecDepth 10000 in
theorem wd_422 : ex_W (.codeWith ⟨"StreamTowerLaw", "read", "(LStreamTower;[J)I"⟩ method_5_code 3 (some FieldType.int) [(0, 8, 11, 15)]) := ⟨List.mem_append_right _ (List.mem_of_getElem? (i := 422) rfl), rfl⟩
set_option maxRecDepth 10000 in
theorem wd_423 : ex_W (.methodLink "StreamTowerLaw" 20 ⟨"StreamTower", "read", "()I"⟩) := ⟨List.mem_append_right _ (List.mem_of_getElem? (i := 423) rfl), rfl⟩
set_option maxRecDepth 10000 in
theorem wd_424 : ex_W (.instanceMethod ⟨"StreamTower", "read", "()I"⟩) := ⟨List.mem_append_right _ (List.mem_of_getElem? (i := 424) rfl), rfl⟩
set_option maxRecDepth 10000 in
theorem wd_425 : ex_W (.selects "StreamTower" ⟨"StreamTower", "read", "()I"⟩ ⟨"StreamTower", "read", "()I"⟩) := ⟨List.mem_append_right _ (List.mem_of_getElem? (i := 425) rfl), rfl⟩
set_option maxRecDepth 10000 in
theorem wd_426 : ex_W (.code ⟨"StreamTower", "read", "()I"⟩ prog_1_method_6_code 2 (some FieldType.int)) := ⟨List.mem_append_right _ (List.mem_of_getElem? (i := 426) rfl), rfl⟩
set_option maxRecDepth 10000 in
theorem wd_427 : ex_W (.methodLink "StreamTower" 83 ⟨"StreamTower", "startReading", "()V"⟩) := ⟨List.mem_append_right _ (List.mem_of_getElem? (i := 427) rfl), rfl⟩
set_option maxRecDepth 10000 in
theorem wd_429 : ex_W (.instanceMethod ⟨"StreamTower", "startReading", "()V"⟩) := ⟨List.mem_append_right _ (List.mem_of_getElem? (i := 429) rfl), rfl⟩
set_option maxRecDepth 10000 in
theorem wd_430 : ex_W (.code ⟨"StreamTower", "startReading", "()V"⟩ prog_1_method_25_code 1 none) := ⟨List.mem_append_right _ (List.mem_of_getElem? (i := 430) rfl), rfl⟩
set_option maxRecDepth 10000 in
theorem wd_431 : ex_W (.methodLink "StreamTower" 174 ⟨"StreamTower$Row", "clear", "()V"⟩) := ⟨List.mem_append_right _ (List.mem_of_getElem? (i := 431) rfl), rfl⟩
set_option maxRecDepth 10000 in
theorem wd_432 : ex_W (.instanceMethod ⟨"StreamTower$Row", "clear", "()V"⟩) := ⟨List.mem_append_right _ (List.mem_of_getElem? (i := 432) rfl), rfl⟩
set_option maxRecDepth 10000 in
theorem wd_433 : ex_W (.selects "StreamTower$Row" ⟨"StreamTower$Row", "clear", "()V"⟩ ⟨"StreamTower$Row", "clear", "()V"⟩) := ⟨List.mem_append_right _ (List.mem_of_getElem? (i := 433) rfl), rfl⟩
set_option maxRecDepth 10000 in
theorem wd_434 : ex_W (.code ⟨"StreamTower$Row", "clear", "()V"⟩ prog_8_method_2_code 1 none) := ⟨List.mem_append_right _ (List.mem_of_getElem? (i := 434) rfl), rfl⟩
set_option maxRecDepth 10000 in
theorem wd_435 : ex_W (.methodLink "StreamTower" 118 ⟨"StreamTower", "refuseWhenClosed", "()V"⟩) := ⟨List.mem_append_right _ (List.mem_of_getElem? (i := 435) rfl), rfl⟩
set_option maxRecDepth 10000 in
theorem wd_437 : ex_W (.instanceMethod ⟨"StreamTower", "refuseWhenClosed", "()V"⟩) := ⟨List.mem_append_right _ (List.mem_of_getElem? (i := 437) rfl), rfl⟩
set_option maxRecDepth 10000 in
theorem wd_438 : ex_W (.code ⟨"StreamTower", "refuseWhenClosed", "()V"⟩ prog_1_method_24_code 1 none) := ⟨List.mem_append_right _ (List.mem_of_getElem? (i := 438) rfl), rfl⟩
set_option maxRecDepth 10000 in
theorem wd_439 : ex_W (.methodLink "StreamTower" 86 ⟨"StreamTower", "request", "(I)I"⟩) := ⟨List.mem_append_right _ (List.mem_of_getElem? (i := 439) rfl), rfl⟩
set_option maxRecDepth 10000 in
theorem wd_441 : ex_W (.instanceMethod ⟨"StreamTower", "request", "(I)I"⟩) := ⟨List.mem_append_right _ (List.mem_of_getElem? (i := 441) rfl), rfl⟩
set_option maxRecDepth 10000 in
theorem wd_442 : ex_W (.code ⟨"StreamTower", "request", "(I)I"⟩ prog_1_method_26_code 3 (some FieldType.int)) := ⟨List.mem_append_right _ (List.mem_of_getElem? (i := 442) rfl), rfl⟩
set_option maxRecDepth 10000 in
theorem wd_443 : ex_W (.methodLink "StreamTower" 177 ⟨"StreamTower$Stream", "answer", "(I[II)I"⟩) := ⟨List.mem_append_right _ (List.mem_of_getElem? (i := 443) rfl), rfl⟩
set_option maxRecDepth 10000 in
theorem wd_444 : ex_W (.declares ⟨"StreamTower$Stream", "answer", "(I[II)I"⟩) := ⟨List.mem_append_right _ (List.mem_of_getElem? (i := 444) rfl), rfl⟩
set_option maxRecDepth 10000 in
theorem wd_445 : ex_W (.sameMethod "StreamTower$Stream" "StreamTower$Stream" "answer" "(I[II)I") := ⟨List.mem_append_right _ (List.mem_of_getElem? (i := 445) rfl), rfl⟩
set_option maxRecDepth 10000 in
theorem wd_446 : ex_W (.selects "StreamTower$Buffer" ⟨"StreamTower$Stream", "answer", "(I[II)I"⟩ ⟨"StreamTower$Buffer", "answer", "(I[II)I"⟩) := ⟨List.mem_append_right _ (List.mem_of_getElem? (i := 446) rfl), rfl⟩
set_option maxRecDepth 10000 in
theorem wd_447 : ex_W (.instanceMethod ⟨"StreamTower$Buffer", "answer", "(I[II)I"⟩) := ⟨List.mem_append_right _ (List.mem_of_getElem? (i := 447) rfl), rfl⟩
set_option maxRecDepth 10000 in
theorem wd_448 : ex_W (.code ⟨"StreamTower$Buffer", "answer", "(I[II)I"⟩ prog_2_method_2_code 5 (some FieldType.int)) := ⟨List.mem_append_right _ (List.mem_of_getElem? (i := 448) rfl), rfl⟩
set_option maxRecDepth 10000 in
theorem wd_449 : ex_W (.methodLink "StreamTower$Buffer" 33 ⟨"StreamTower$Stream", "answer", "(I[II)I"⟩) := ⟨List.mem_append_right _ (List.mem_of_getElem? (i := 449) rfl), rfl⟩
set_option maxRecDepth 10000 in
theorem wd_450 : ex_W (.instanceMethod ⟨"StreamTower$Code", "answer", "(I[II)I"⟩) := ⟨List.mem_append_right _ (List.mem_of_getElem? (i := 450) rfl), rfl⟩
set_option maxRecDepth 10000 in
theorem wd_451 : ex_W (.code ⟨"StreamTower$Code", "answer", "(I[II)I"⟩ prog_3_method_2_code 6 (some FieldType.int)) := ⟨List.mem_append_right _ (List.mem_of_getElem? (i := 451) rfl), rfl⟩
set_option maxRecDepth 10000 in
theorem wd_452 : ex_W (.methodLink "StreamTower$Code" 19 ⟨"StreamTower$Stream", "answer", "(I[II)I"⟩) := ⟨List.mem_append_right _ (List.mem_of_getElem? (i := 452) rfl), rfl⟩
set_option maxRecDepth 10000 in
theorem wd_453 : ex_W (.instanceMethod ⟨"StreamTower$Limit", "answer", "(I[II)I"⟩) := ⟨List.mem_append_right _ (List.mem_of_getElem? (i := 453) rfl), rfl⟩
set_option maxRecDepth 10000 in
theorem wd_454 : ex_W (.code ⟨"StreamTower$Limit", "answer", "(I[II)I"⟩ prog_4_method_2_code 5 (some FieldType.int)) := ⟨List.mem_append_right _ (List.mem_of_getElem? (i := 454) rfl), rfl⟩
set_option maxRecDepth 10000 in
theorem wd_455 : ex_W (.methodLink "StreamTower$Limit" 28 ⟨"StreamTower$Stream", "answer", "(I[II)I"⟩) := ⟨List.mem_append_right _ (List.mem_of_getElem? (i := 455) rfl), rfl⟩
set_option maxRecDepth 10000 in
theorem wd_456 : ex_W (.instanceMethod ⟨"StreamTower$Lines", "answer", "(I[II)I"⟩) := ⟨List.mem_append_right _ (List.mem_of_getElem? (i := 456) rfl), rfl⟩
set_option maxRecDepth 10000 in
theorem wd_457 : ex_W (.code ⟨"StreamTower$Lines", "answer", "(I[II)I"⟩ prog_5_method_2_code 6 (some FieldType.int)) := ⟨List.mem_append_right _ (List.mem_of_getElem? (i := 457) rfl), rfl⟩
set_option maxRecDepth 10000 in
theorem wd_458 : ex_W (.methodLink "StreamTower$Lines" 15 ⟨"StreamTower$Stream", "answer", "(I[II)I"⟩) := ⟨List.mem_append_right _ (List.mem_of_getElem? (i := 458) rfl), rfl⟩
set_option maxRecDepth 10000 in
theorem wd_459 : ex_W (.instanceMethod ⟨"StreamTower$Pushback", "answer", "(I[II)I"⟩) := ⟨List.mem_append_right _ (List.mem_of_getElem? (i := 459) rfl), rfl⟩
set_option maxRecDepth 10000 in
theorem wd_460 : ex_W (.code ⟨"StreamTower$Pushback", "answer", "(I[II)I"⟩ prog_7_method_3_code 6 (some FieldType.int)) := ⟨List.mem_append_right _ (List.mem_of_getElem? (i := 460) rfl), rfl⟩
set_option maxRecDepth 10000 in
theorem wd_461 : ex_W (.methodLink "StreamTower$Pushback" 21 ⟨"StreamTower$Stream", "answer", "(I[II)I"⟩) := ⟨List.mem_append_right _ (List.mem_of_getElem? (i := 461) rfl), rfl⟩
set_option maxRecDepth 10000 in
theorem wd_462 : ex_W (.instanceMethod ⟨"StreamTower$Source", "answer", "(I[II)I"⟩) := ⟨List.mem_append_right _ (List.mem_of_getElem? (i := 462) rfl), rfl⟩
set_option maxRecDepth 10000 in
theorem wd_463 : ex_W (.code ⟨"StreamTower$Source", "answer", "(I[II)I"⟩ prog_9_method_7_code 5 (some FieldType.int)) := ⟨List.mem_append_right _ (List.mem_of_getElem? (i := 463) rfl), rfl⟩
set_option maxRecDepth 10000 in
theorem wd_464 : ex_W (.methodLink "StreamTower$Source" 33 ⟨"StreamTower$Source", "ready", "()I"⟩) := ⟨List.mem_append_right _ (List.mem_of_getElem? (i := 464) rfl), rfl⟩
set_option maxRecDepth 10000 in
theorem wd_465 : ex_W (.methodLink "StreamTower$Source" 37 ⟨"java/lang/Math", "min", "(II)I"⟩) := ⟨List.mem_append_right _ (List.mem_of_getElem? (i := 465) rfl), rfl⟩
set_option maxRecDepth 10000 in
theorem wd_466 : ex_W (.methodLink "StreamTower$Source" 43 ⟨"java/lang/System", "arraycopy", "(Ljava/lang/Object;ILjava/lang/Object;II)V"⟩) := ⟨List.mem_append_right _ (List.mem_of_getElem? (i := 466) rfl), rfl⟩
set_option maxRecDepth 10000 in
theorem wd_467 : ex_W (.static ⟨"java/lang/System", "arraycopy", "(Ljava/lang/Object;ILjava/lang/Object;II)V"⟩) := ⟨List.mem_append_right _ (List.mem_of_getElem? (i := 467) rfl), rfl⟩
set_option maxRecDepth 10000 in
theorem wd_468 : ex_W (.native ⟨"java/lang/System", "arraycopy", "(Ljava/lang/Object;ILjava/lang/Object;II)V"⟩) := ⟨List.mem_append_right _ (List.mem_of_getElem? (i := 468) rfl), rfl⟩
set_option maxRecDepth 10000 in
theorem wd_469 : ex_W (.methodLink "StreamTower$Pushback" 25 ⟨"java/lang/Math", "min", "(II)I"⟩) := ⟨List.mem_append_right _ (List.mem_of_getElem? (i := 469) rfl), rfl⟩
set_option maxRecDepth 10000 in
theorem wd_470 : ex_W (.methodLink "StreamTower$Lines" 21 ⟨"StreamTower$Lines", "countLineEnd", "(I)V"⟩) := ⟨List.mem_append_right _ (List.mem_of_getElem? (i := 470) rfl), rfl⟩
set_option maxRecDepth 10000 in
theorem wd_472 : ex_W (.instanceMethod ⟨"StreamTower$Lines", "countLineEnd", "(I)V"⟩) := ⟨List.mem_append_right _ (List.mem_of_getElem? (i := 472) rfl), rfl⟩
set_option maxRecDepth 10000 in
theorem wd_473 : ex_W (.code ⟨"StreamTower$Lines", "countLineEnd", "(I)V"⟩ prog_5_method_3_code 2 none) := ⟨List.mem_append_right _ (List.mem_of_getElem? (i := 473) rfl), rfl⟩
set_option maxRecDepth 10000 in
theorem wd_474 : ex_W (.methodLink "StreamTower$Buffer" 37 ⟨"StreamTower$Buffer", "fill", "()I"⟩) := ⟨List.mem_append_right _ (List.mem_of_getElem? (i := 474) rfl), rfl⟩
set_option maxRecDepth 10000 in
theorem wd_476 : ex_W (.instanceMethod ⟨"StreamTower$Buffer", "fill", "()I"⟩) := ⟨List.mem_append_right _ (List.mem_of_getElem? (i := 476) rfl), rfl⟩
set_option maxRecDepth 10000 in
theorem wd_477 : ex_W (.code ⟨"StreamTower$Buffer", "fill", "()I"⟩ prog_2_method_3_code 2 (some FieldType.int)) := ⟨List.mem_append_right _ (List.mem_of_getElem? (i := 477) rfl), rfl⟩
set_option maxRecDepth 10000 in
theorem wd_478 : ex_W (.methodLink "StreamTower$Buffer" 47 ⟨"java/lang/System", "arraycopy", "(Ljava/lang/Object;ILjava/lang/Object;II)V"⟩) := ⟨List.mem_append_right _ (List.mem_of_getElem? (i := 478) rfl), rfl⟩
set_option maxRecDepth 10000 in
theorem wd_479 : ex_W (.methodLink "StreamTower$Buffer" 41 ⟨"java/lang/Math", "min", "(II)I"⟩) := ⟨List.mem_append_right _ (List.mem_of_getElem? (i := 479) rfl), rfl⟩
set_option maxRecDepth 10000 in
theorem wd_480 : ex_W (.methodLink "StreamTower$Buffer" 53 ⟨"StreamTower$Buffer", "forgetWhatNoMarkKeeps", "()V"⟩) := ⟨List.mem_append_right _ (List.mem_of_getElem? (i := 480) rfl), rfl⟩
set_option maxRecDepth 10000 in
theorem wd_482 : ex_W (.instanceMethod ⟨"StreamTower$Buffer", "forgetWhatNoMarkKeeps", "()V"⟩) := ⟨List.mem_append_right _ (List.mem_of_getElem? (i := 482) rfl), rfl⟩
set_option maxRecDepth 10000 in
theorem wd_483 : ex_W (.code ⟨"StreamTower$Buffer", "forgetWhatNoMarkKeeps", "()V"⟩ prog_2_method_4_code 1 none) := ⟨List.mem_append_right _ (List.mem_of_getElem? (i := 483) rfl), rfl⟩
set_option maxRecDepth 10000 in
theorem wd_484 : ex_W (.selects "StreamTower$Code" ⟨"StreamTower$Stream", "answer", "(I[II)I"⟩ ⟨"StreamTower$Code", "answer", "(I[II)I"⟩) := ⟨List.mem_append_right _ (List.mem_of_getElem? (i := 484) rfl), rfl⟩
set_option maxRecDepth 10000 in
theorem wd_485 : ex_W (.selects "StreamTower$Limit" ⟨"StreamTower$Stream", "answer", "(I[II)I"⟩ ⟨"StreamTower$Limit", "answer", "(I[II)I"⟩) := ⟨List.mem_append_right _ (List.mem_of_getElem? (i := 485) rfl), rfl⟩
set_option maxRecDepth 10000 in
theorem wd_486 : ex_W (.selects "StreamTower$Lines" ⟨"StreamTower$Stream", "answer", "(I[II)I"⟩ ⟨"StreamTower$Lines", "answer", "(I[II)I"⟩) := ⟨List.mem_append_right _ (List.mem_of_getElem? (i := 486) rfl), rfl⟩
set_option maxRecDepth 10000 in
theorem wd_487 : ex_W (.selects "StreamTower$Pushback" ⟨"StreamTower$Stream", "answer", "(I[II)I"⟩ ⟨"StreamTower$Pushback", "answer", "(I[II)I"⟩) := ⟨List.mem_append_right _ (List.mem_of_getElem? (i := 487) rfl), rfl⟩
set_option maxRecDepth 10000 in
theorem wd_488 : ex_W (.selects "StreamTower$Source" ⟨"StreamTower$Stream", "answer", "(I[II)I"⟩ ⟨"StreamTower$Source", "answer", "(I[II)I"⟩) := ⟨List.mem_append_right _ (List.mem_of_getElem? (i := 488) rfl), rfl⟩
set_option maxRecDepth 10000 in
theorem wd_489 : ex_W (.methodLink "StreamTower" 181 ⟨"java/lang/System", "arraycopy", "(Ljava/lang/Object;ILjava/lang/Object;II)V"⟩) := ⟨List.mem_append_right _ (List.mem_of_getElem? (i := 489) rfl), rfl⟩
set_option maxRecDepth 10000 in
theorem wd_490 : ex_W (.methodLink "StreamTower" 90 ⟨"StreamTower$Row", "addAll", "([II)V"⟩) := ⟨List.mem_append_right _ (List.mem_of_getElem? (i := 490) rfl), rfl⟩
set_option maxRecDepth 10000 in
theorem wd_491 : ex_W (.instanceMethod ⟨"StreamTower$Row", "addAll", "([II)V"⟩) := ⟨List.mem_append_right _ (List.mem_of_getElem? (i := 491) rfl), rfl⟩
set_option maxRecDepth 10000 in
theorem wd_492 : ex_W (.selects "StreamTower$Row" ⟨"StreamTower$Row", "addAll", "([II)V"⟩ ⟨"StreamTower$Row", "addAll", "([II)V"⟩) := ⟨List.mem_append_right _ (List.mem_of_getElem? (i := 492) rfl), rfl⟩
set_option maxRecDepth 10000 in
theorem wd_493 : ex_W (.code ⟨"StreamTower$Row", "addAll", "([II)V"⟩ prog_8_method_4_code 4 none) := ⟨List.mem_append_right _ (List.mem_of_getElem? (i := 493) rfl), rfl⟩
set_option maxRecDepth 10000 in
theorem wd_494 : ex_W (.methodLink "StreamTower$Row" 19 ⟨"StreamTower$Row", "add", "(I)V"⟩) := ⟨List.mem_append_right _ (List.mem_of_getElem? (i := 494) rfl), rfl⟩
set_option maxRecDepth 10000 in
theorem wd_495 : ex_W (.instanceMethod ⟨"StreamTower$Row", "add", "(I)V"⟩) := ⟨List.mem_append_right _ (List.mem_of_getElem? (i := 495) rfl), rfl⟩
set_option maxRecDepth 10000 in
theorem wd_496 : ex_W (.selects "StreamTower$Row" ⟨"StreamTower$Row", "add", "(I)V"⟩ ⟨"StreamTower$Row", "add", "(I)V"⟩) := ⟨List.mem_append_right _ (List.mem_of_getElem? (i := 496) rfl), rfl⟩
set_option maxRecDepth 10000 in
theorem wd_497 : ex_W (.code ⟨"StreamTower$Row", "add", "(I)V"⟩ prog_8_method_3_code 2 none) := ⟨List.mem_append_right _ (List.mem_of_getElem? (i := 497) rfl), rfl⟩
set_option maxRecDepth 10000 in
theorem wd_498 : ex_W (.methodLink "StreamTowerLaw" 87 ⟨"StreamTowerLaw", "some", "(LStreamTower;I[J)I"⟩) := ⟨List.mem_append_right _ (List.mem_of_getElem? (i := 498) rfl), rfl⟩
set_option maxRecDepth 10000 in
theorem wd_499 : ex_W (.static ⟨"StreamTowerLaw", "some", "(LStreamTower;I[J)I"⟩) := ⟨List.mem_append_right _ (List.mem_of_getElem? (i := 499) rfl), rfl⟩
set_option maxRecDepth 10000 in
theorem wd_500 : ex_W (.codeWith ⟨"StreamTowerLaw", "some", "(LStreamTower;I[J)I"⟩ method_6_code 4 (some FieldType.int) [(0, 9, 12, 13), (0, 9, 15, 15)]) := ⟨List.mem_append_right _ (List.mem_of_getElem? (i := 500) rfl), rfl⟩
set_option maxRecDepth 10000 in
theorem wd_501 : ex_W (.methodLink "StreamTowerLaw" 24 ⟨"StreamTower", "some", "(I)I"⟩) := ⟨List.mem_append_right _ (List.mem_of_getElem? (i := 501) rfl), rfl⟩
set_option maxRecDepth 10000 in
theorem wd_502 : ex_W (.instanceMethod ⟨"StreamTower", "some", "(I)I"⟩) := ⟨List.mem_append_right _ (List.mem_of_getElem? (i := 502) rfl), rfl⟩
set_option maxRecDepth 10000 in
theorem wd_503 : ex_W (.selects "StreamTower" ⟨"StreamTower", "some", "(I)I"⟩ ⟨"StreamTower", "some", "(I)I"⟩) := ⟨List.mem_append_right _ (List.mem_of_getElem? (i := 503) rfl), rfl⟩
set_option maxRecDepth 10000 in
theorem wd_504 : ex_W (.code ⟨"StreamTower", "some", "(I)I"⟩ prog_1_method_7_code 3 (some FieldType.int)) := ⟨List.mem_append_right _ (List.mem_of_getElem? (i := 504) rfl), rfl⟩
set_option maxRecDepth 10000 in
theorem wd_505 : ex_W (.methodLink "StreamTowerLaw" 91 ⟨"StreamTowerLaw", "full", "(LStreamTower;I)I"⟩) := ⟨List.mem_append_right _ (List.mem_of_getElem? (i := 505) rfl), rfl⟩
set_option maxRecDepth 10000 in
theorem wd_506 : ex_W (.static ⟨"StreamTowerLaw", "full", "(LStreamTower;I)I"⟩) := ⟨List.mem_append_right _ (List.mem_of_getElem? (i := 506) rfl), rfl⟩
set_option maxRecDepth 10000 in
theorem wd_507 : ex_W (.codeWith ⟨"StreamTowerLaw", "full", "(LStreamTower;I)I"⟩ method_7_code 3 (some FieldType.int) [(0, 5, 8, 13), (0, 5, 11, 15), (0, 5, 14, 32)]) := ⟨List.mem_append_right _ (List.mem_of_getElem? (i := 507) rfl), rfl⟩
set_option maxRecDepth 10000 in
theorem wd_508 : ex_W (.classLink "StreamTowerLaw" 32 "java/util/NoSuchElementException") := ⟨List.mem_append_right _ (List.mem_of_getElem? (i := 508) rfl), rfl⟩
set_option maxRecDepth 10000 in
theorem wd_509 : ex_W (.methodLink "StreamTowerLaw" 28 ⟨"StreamTower", "full", "(I)V"⟩) := ⟨List.mem_append_right _ (List.mem_of_getElem? (i := 509) rfl), rfl⟩
set_option maxRecDepth 10000 in
theorem wd_510 : ex_W (.instanceMethod ⟨"StreamTower", "full", "(I)V"⟩) := ⟨List.mem_append_right _ (List.mem_of_getElem? (i := 510) rfl), rfl⟩
set_option maxRecDepth 10000 in
theorem wd_511 : ex_W (.selects "StreamTower" ⟨"StreamTower", "full", "(I)V"⟩ ⟨"StreamTower", "full", "(I)V"⟩) := ⟨List.mem_append_right _ (List.mem_of_getElem? (i := 511) rfl), rfl⟩
set_option maxRecDepth 10000 in
theorem wd_512 : ex_W (.code ⟨"StreamTower", "full", "(I)V"⟩ prog_1_method_8_code 2 none) := ⟨List.mem_append_right _ (List.mem_of_getElem? (i := 512) rfl), rfl⟩
set_option maxRecDepth 10000 in
theorem wd_513 : ex_W (.methodLink "StreamTower" 97 ⟨"StreamTower", "readAll", "(I)V"⟩) := ⟨List.mem_append_right _ (List.mem_of_getElem? (i := 513) rfl), rfl⟩
set_option maxRecDepth 10000 in
theorem wd_515 : ex_W (.instanceMethod ⟨"StreamTower", "readAll", "(I)V"⟩) := ⟨List.mem_append_right _ (List.mem_of_getElem? (i := 515) rfl), rfl⟩
set_option maxRecDepth 10000 in
theorem wd_516 : ex_W (.code ⟨"StreamTower", "readAll", "(I)V"⟩ prog_1_method_27_code 5 none) := ⟨List.mem_append_right _ (List.mem_of_getElem? (i := 516) rfl), rfl⟩
set_option maxRecDepth 10000 in
theorem wd_517 : ex_W (.classLink "StreamTower" 187 "java/util/NoSuchElementException") := ⟨List.mem_append_right _ (List.mem_of_getElem? (i := 517) rfl), rfl⟩
set_option maxRecDepth 10000 in
theorem wd_518 : ex_W (.instantiable "java/util/NoSuchElementException" 6) := ⟨List.mem_append_right _ (List.mem_of_getElem? (i := 518) rfl), rfl⟩
set_option maxRecDepth 10000 in
theorem wd_519 : ex_W (.castable "java/util/NoSuchElementException" "java/util/NoSuchElementException") := ⟨List.mem_append_right _ (List.mem_of_getElem? (i := 519) rfl), rfl⟩
set_option maxRecDepth 10000 in
theorem wd_520 : ex_W (.selects "java/util/NoSuchElementException" ⟨"java/lang/Throwable", "fillInStackTrace", "(I)Ljava/lang/Throwable;"⟩ ⟨"java/lang/Throwable", "fillInStackTrace", "(I)Ljava/lang/Throwable;"⟩) := ⟨List.mem_append_right _ (List.mem_of_getElem? (i := 520) rfl), rfl⟩
set_option maxRecDepth 10000 in
theorem wd_521 : ex_W (.lays "java/util/NoSuchElementException" "java/lang/Throwable" "cause" "Ljava/lang/Throwable;") := ⟨List.mem_append_right _ (List.mem_of_getElem? (i := 521) rfl), rfl⟩
set_option maxRecDepth 10000 in
theorem wd_522 : ex_W (.lays "java/util/NoSuchElementException" "java/lang/Throwable" "stackTrace" "[Ljava/lang/StackTraceElement;") := ⟨List.mem_append_right _ (List.mem_of_getElem? (i := 522) rfl), rfl⟩
set_option maxRecDepth 10000 in
theorem wd_523 : ex_W (.lays "java/util/NoSuchElementException" "java/lang/Throwable" "suppressedExceptions" "Ljava/util/List;") := ⟨List.mem_append_right _ (List.mem_of_getElem? (i := 523) rfl), rfl⟩
set_option maxRecDepth 10000 in
theorem wd_524 : ex_W (.lays "java/util/NoSuchElementException" "java/lang/Throwable" "detailMessage" "Ljava/lang/String;") := ⟨List.mem_append_right _ (List.mem_of_getElem? (i := 524) rfl), rfl⟩
set_option maxRecDepth 10000 in
theorem wd_525 : ex_W (.lays "java/util/NoSuchElementException" "java/lang/Throwable" "backtrace" "Ljava/lang/Object;") := ⟨List.mem_append_right _ (List.mem_of_getElem? (i := 525) rfl), rfl⟩
set_option maxRecDepth 10000 in
theorem wd_526 : ex_W (.methodLink "StreamTower" 189 ⟨"java/util/NoSuchElementException", "<init>", "()V"⟩) := ⟨List.mem_append_right _ (List.mem_of_getElem? (i := 526) rfl), rfl⟩
set_option maxRecDepth 10000 in
theorem wd_527 : ex_W (.instanceMethod ⟨"java/util/NoSuchElementException", "<init>", "()V"⟩) := ⟨List.mem_append_right _ (List.mem_of_getElem? (i := 527) rfl), rfl⟩
set_option maxRecDepth 10000 in
theorem wd_528 : ex_W (.code ⟨"java/util/NoSuchElementException", "<init>", "()V"⟩ prog_21_method_1_code 1 none) := ⟨List.mem_append_right _ (List.mem_of_getElem? (i := 528) rfl), rfl⟩
set_option maxRecDepth 10000 in
theorem wd_529 : ex_W (.methodLink "java/util/NoSuchElementException" 1 ⟨"java/lang/RuntimeException", "<init>", "()V"⟩) := ⟨List.mem_append_right _ (List.mem_of_getElem? (i := 529) rfl), rfl⟩
set_option maxRecDepth 10000 in
theorem wd_530 : ex_W (.lays "java/util/NoSuchElementException" "java/lang/Throwable" "depth" "I") := ⟨List.mem_append_right _ (List.mem_of_getElem? (i := 530) rfl), rfl⟩
set_option maxRecDepth 10000 in
theorem wd_531 : ex_W (.superclass "java/util/NoSuchElementException" "java/lang/RuntimeException") := ⟨List.mem_append_right _ (List.mem_of_getElem? (i := 531) rfl), rfl⟩
set_option maxRecDepth 10000 in
theorem wd_532 : ex_W (.methodLink "StreamTowerLaw" 95 ⟨"StreamTowerLaw", "skip", "(LStreamTower;I[J)I"⟩) := ⟨List.mem_append_right _ (List.mem_of_getElem? (i := 532) rfl), rfl⟩
set_option maxRecDepth 10000 in
theorem wd_533 : ex_W (.static ⟨"StreamTowerLaw", "skip", "(LStreamTower;I[J)I"⟩) := ⟨List.mem_append_right _ (List.mem_of_getElem? (i := 533) rfl), rfl⟩
set_option maxRecDepth 10000 in
theorem wd_534 : ex_W (.codeWith ⟨"StreamTowerLaw", "skip", "(LStreamTower;I[J)I"⟩ method_8_code 4 (some FieldType.int) [(0, 9, 12, 13), (0, 9, 15, 15)]) := ⟨List.mem_append_right _ (List.mem_of_getElem? (i := 534) rfl), rfl⟩
set_option maxRecDepth 10000 in
theorem wd_535 : ex_W (.methodLink "StreamTowerLaw" 34 ⟨"StreamTower", "skip", "(I)I"⟩) := ⟨List.mem_append_right _ (List.mem_of_getElem? (i := 535) rfl), rfl⟩
set_option maxRecDepth 10000 in
theorem wd_536 : ex_W (.instanceMethod ⟨"StreamTower", "skip", "(I)I"⟩) := ⟨List.mem_append_right _ (List.mem_of_getElem? (i := 536) rfl), rfl⟩
set_option maxRecDepth 10000 in
theorem wd_537 : ex_W (.selects "StreamTower" ⟨"StreamTower", "skip", "(I)I"⟩ ⟨"StreamTower", "skip", "(I)I"⟩) := ⟨List.mem_append_right _ (List.mem_of_getElem? (i := 537) rfl), rfl⟩
set_option maxRecDepth 10000 in
theorem wd_538 : ex_W (.code ⟨"StreamTower", "skip", "(I)I"⟩ prog_1_method_9_code 5 (some FieldType.int)) := ⟨List.mem_append_right _ (List.mem_of_getElem? (i := 538) rfl), rfl⟩
set_option maxRecDepth 10000 in
theorem wd_539 : ex_W (.methodLink "StreamTowerLaw" 98 ⟨"StreamTowerLaw", "number", "(LStreamTower;I[J)I"⟩) := ⟨List.mem_append_right _ (List.mem_of_getElem? (i := 539) rfl), rfl⟩
set_option maxRecDepth 10000 in
theorem wd_540 : ex_W (.static ⟨"StreamTowerLaw", "number", "(LStreamTower;I[J)I"⟩) := ⟨List.mem_append_right _ (List.mem_of_getElem? (i := 540) rfl), rfl⟩
set_option maxRecDepth 10000 in
theorem wd_541 : ex_W (.codeWith ⟨"StreamTowerLaw", "number", "(LStreamTower;I[J)I"⟩ method_9_code 4 (some FieldType.int) [(0, 8, 11, 13), (0, 8, 14, 15), (0, 8, 17, 32)]) := ⟨List.mem_append_right _ (List.mem_of_getElem? (i := 541) rfl), rfl⟩
set_option maxRecDepth 10000 in
theorem wd_542 : ex_W (.methodLink "StreamTowerLaw" 37 ⟨"StreamTower", "number", "(I)J"⟩) := ⟨List.mem_append_right _ (List.mem_of_getElem? (i := 542) rfl), rfl⟩
set_option maxRecDepth 10000 in
theorem wd_543 : ex_W (.instanceMethod ⟨"StreamTower", "number", "(I)J"⟩) := ⟨List.mem_append_right _ (List.mem_of_getElem? (i := 543) rfl), rfl⟩
set_option maxRecDepth 10000 in
theorem wd_544 : ex_W (.selects "StreamTower" ⟨"StreamTower", "number", "(I)J"⟩ ⟨"StreamTower", "number", "(I)J"⟩) := ⟨List.mem_append_right _ (List.mem_of_getElem? (i := 544) rfl), rfl⟩
set_option maxRecDepth 10000 in
theorem wd_545 : ex_W (.code ⟨"StreamTower", "number", "(I)J"⟩ prog_1_method_10_code 2 (some FieldType.long)) := ⟨List.mem_append_right _ (List.mem_of_getElem? (i := 545) rfl), rfl⟩
set_option maxRecDepth 10000 in
theorem wd_546 : ex_W (.methodLink "StreamTower" 100 ⟨"StreamTower", "numberInBag", "(I)J"⟩) := ⟨List.mem_append_right _ (List.mem_of_getElem? (i := 546) rfl), rfl⟩
set_option maxRecDepth 10000 in
theorem wd_548 : ex_W (.instanceMethod ⟨"StreamTower", "numberInBag", "(I)J"⟩) := ⟨List.mem_append_right _ (List.mem_of_getElem? (i := 548) rfl), rfl⟩
set_option maxRecDepth 10000 in
theorem wd_549 : ex_W (.code ⟨"StreamTower", "numberInBag", "(I)J"⟩ prog_1_method_28_code 5 (some FieldType.long)) := ⟨List.mem_append_right _ (List.mem_of_getElem? (i := 549) rfl), rfl⟩
set_option maxRecDepth 10000 in
theorem wd_550 : ex_W (.methodLink "StreamTowerLaw" 101 ⟨"StreamTowerLaw", "text", "(LStreamTower;[J)I"⟩) := ⟨List.mem_append_right _ (List.mem_of_getElem? (i := 550) rfl), rfl⟩
set_option maxRecDepth 10000 in
theorem wd_551 : ex_W (.static ⟨"StreamTowerLaw", "text", "(LStreamTower;[J)I"⟩) := ⟨List.mem_append_right _ (List.mem_of_getElem? (i := 551) rfl), rfl⟩
set_option maxRecDepth 10000 in
theorem wd_552 : ex_W (.codeWith ⟨"StreamTowerLaw", "text", "(LStreamTower;[J)I"⟩ method_10_code 3 (some FieldType.int) [(0, 8, 11, 15), (0, 8, 14, 32), (0, 8, 17, 13)]) := ⟨List.mem_append_right _ (List.mem_of_getElem? (i := 552) rfl), rfl⟩
set_option maxRecDepth 10000 in
theorem wd_553 : ex_W (.methodLink "StreamTowerLaw" 41 ⟨"StreamTower", "text", "()I"⟩) := ⟨List.mem_append_right _ (List.mem_of_getElem? (i := 553) rfl), rfl⟩
set_option maxRecDepth 10000 in
theorem wd_554 : ex_W (.instanceMethod ⟨"StreamTower", "text", "()I"⟩) := ⟨List.mem_append_right _ (List.mem_of_getElem? (i := 554) rfl), rfl⟩
set_option maxRecDepth 10000 in
theorem wd_555 : ex_W (.selects "StreamTower" ⟨"StreamTower", "text", "()I"⟩ ⟨"StreamTower", "text", "()I"⟩) := ⟨List.mem_append_right _ (List.mem_of_getElem? (i := 555) rfl), rfl⟩
set_option maxRecDepth 10000 in
theorem wd_556 : ex_W (.code ⟨"StreamTower", "text", "()I"⟩ prog_1_method_11_code 2 (some FieldType.int)) := ⟨List.mem_append_right _ (List.mem_of_getElem? (i := 556) rfl), rfl⟩
set_option maxRecDepth 10000 in
theorem wd_557 : ex_W (.methodLink "StreamTower" 104 ⟨"StreamTower", "holdsJustLetters", "(LStreamTower$Row;I)Z"⟩) := ⟨List.mem_append_right _ (List.mem_of_getElem? (i := 557) rfl), rfl⟩
set_option maxRecDepth 10000 in
theorem wd_558 : ex_W (.static ⟨"StreamTower", "holdsJustLetters", "(LStreamTower$Row;I)Z"⟩) := ⟨List.mem_append_right _ (List.mem_of_getElem? (i := 558) rfl), rfl⟩
set_option maxRecDepth 10000 in
theorem wd_559 : ex_W (.code ⟨"StreamTower", "holdsJustLetters", "(LStreamTower$Row;I)Z"⟩ prog_1_method_29_code 4 (some FieldType.boolean)) := ⟨List.mem_append_right _ (List.mem_of_getElem? (i := 559) rfl), rfl⟩
set_option maxRecDepth 10000 in
theorem wd_560 : ex_W (.methodLink "StreamTower" 190 ⟨"StreamTower", "letterWidth", "(LStreamTower$Row;I)I"⟩) := ⟨List.mem_append_right _ (List.mem_of_getElem? (i := 560) rfl), rfl⟩
set_option maxRecDepth 10000 in
theorem wd_561 : ex_W (.static ⟨"StreamTower", "letterWidth", "(LStreamTower$Row;I)I"⟩) := ⟨List.mem_append_right _ (List.mem_of_getElem? (i := 561) rfl), rfl⟩
set_option maxRecDepth 10000 in
theorem wd_562 : ex_W (.code ⟨"StreamTower", "letterWidth", "(LStreamTower$Row;I)I"⟩ prog_1_method_31_code 4 (some FieldType.int)) := ⟨List.mem_append_right _ (List.mem_of_getElem? (i := 562) rfl), rfl⟩
set_option maxRecDepth 10000 in
theorem wd_563 : ex_W (.methodLink "StreamTower" 198 ⟨"StreamTower", "widthByFirstByte", "(I)I"⟩) := ⟨List.mem_append_right _ (List.mem_of_getElem? (i := 563) rfl), rfl⟩
set_option maxRecDepth 10000 in
theorem wd_564 : ex_W (.static ⟨"StreamTower", "widthByFirstByte", "(I)I"⟩) := ⟨List.mem_append_right _ (List.mem_of_getElem? (i := 564) rfl), rfl⟩
set_option maxRecDepth 10000 in
theorem wd_565 : ex_W (.code ⟨"StreamTower", "widthByFirstByte", "(I)I"⟩ prog_1_method_32_code 1 (some FieldType.int)) := ⟨List.mem_append_right _ (List.mem_of_getElem? (i := 565) rfl), rfl⟩
set_option maxRecDepth 10000 in
theorem wd_566 : ex_W (.methodLink "StreamTower" 108 ⟨"StreamTower", "takeLetters", "()V"⟩) := ⟨List.mem_append_right _ (List.mem_of_getElem? (i := 566) rfl), rfl⟩
set_option maxRecDepth 10000 in
theorem wd_568 : ex_W (.instanceMethod ⟨"StreamTower", "takeLetters", "()V"⟩) := ⟨List.mem_append_right _ (List.mem_of_getElem? (i := 568) rfl), rfl⟩
set_option maxRecDepth 10000 in
theorem wd_569 : ex_W (.code ⟨"StreamTower", "takeLetters", "()V"⟩ prog_1_method_30_code 3 none) := ⟨List.mem_append_right _ (List.mem_of_getElem? (i := 569) rfl), rfl⟩
set_option maxRecDepth 10000 in
theorem wd_570 : ex_W (.methodLink "StreamTower" 194 ⟨"StreamTower", "letterOf", "(LStreamTower$Row;II)I"⟩) := ⟨List.mem_append_right _ (List.mem_of_getElem? (i := 570) rfl), rfl⟩
set_option maxRecDepth 10000 in
theorem wd_571 : ex_W (.static ⟨"StreamTower", "letterOf", "(LStreamTower$Row;II)I"⟩) := ⟨List.mem_append_right _ (List.mem_of_getElem? (i := 571) rfl), rfl⟩
set_option maxRecDepth 10000 in
theorem wd_572 : ex_W (.code ⟨"StreamTower", "letterOf", "(LStreamTower$Row;II)I"⟩ prog_1_method_33_code 6 (some FieldType.int)) := ⟨List.mem_append_right _ (List.mem_of_getElem? (i := 572) rfl), rfl⟩
set_option maxRecDepth 10000 in
theorem wd_573 : ex_W (.methodLink "StreamTower" 115 ⟨"StreamTower$Row", "add", "(I)V"⟩) := ⟨List.mem_append_right _ (List.mem_of_getElem? (i := 573) rfl), rfl⟩
set_option maxRecDepth 10000 in
theorem wd_574 : ex_W (.methodLink "StreamTowerLaw" 104 ⟨"StreamTowerLaw", "line", "(LStreamTower;[J)I"⟩) := ⟨List.mem_append_right _ (List.mem_of_getElem? (i := 574) rfl), rfl⟩
set_option maxRecDepth 10000 in
theorem wd_575 : ex_W (.static ⟨"StreamTowerLaw", "line", "(LStreamTower;[J)I"⟩) := ⟨List.mem_append_right _ (List.mem_of_getElem? (i := 575) rfl), rfl⟩
set_option maxRecDepth 10000 in
theorem wd_576 : ex_W (.codeWith ⟨"StreamTowerLaw", "line", "(LStreamTower;[J)I"⟩ method_11_code 3 (some FieldType.int) [(0, 8, 11, 15)]) := ⟨List.mem_append_right _ (List.mem_of_getElem? (i := 576) rfl), rfl⟩
set_option maxRecDepth 10000 in
theorem wd_577 : ex_W (.methodLink "StreamTowerLaw" 44 ⟨"StreamTower", "line", "()I"⟩) := ⟨List.mem_append_right _ (List.mem_of_getElem? (i := 577) rfl), rfl⟩
set_option maxRecDepth 10000 in
theorem wd_578 : ex_W (.instanceMethod ⟨"StreamTower", "line", "()I"⟩) := ⟨List.mem_append_right _ (List.mem_of_getElem? (i := 578) rfl), rfl⟩
set_option maxRecDepth 10000 in
theorem wd_579 : ex_W (.selects "StreamTower" ⟨"StreamTower", "line", "()I"⟩ ⟨"StreamTower", "line", "()I"⟩) := ⟨List.mem_append_right _ (List.mem_of_getElem? (i := 579) rfl), rfl⟩
set_option maxRecDepth 10000 in
theorem wd_580 : ex_W (.code ⟨"StreamTower", "line", "()I"⟩ prog_1_method_12_code 4 (some FieldType.int)) := ⟨List.mem_append_right _ (List.mem_of_getElem? (i := 580) rfl), rfl⟩
set_option maxRecDepth 10000 in
theorem wd_581 : ex_W (.methodLink "StreamTowerLaw" 107 ⟨"StreamTowerLaw", "mark", "(LStreamTower;I)I"⟩) := ⟨List.mem_append_right _ (List.mem_of_getElem? (i := 581) rfl), rfl⟩
set_option maxRecDepth 10000 in
theorem wd_582 : ex_W (.static ⟨"StreamTowerLaw", "mark", "(LStreamTower;I)I"⟩) := ⟨List.mem_append_right _ (List.mem_of_getElem? (i := 582) rfl), rfl⟩
set_option maxRecDepth 10000 in
theorem wd_583 : ex_W (.codeWith ⟨"StreamTowerLaw", "mark", "(LStreamTower;I)I"⟩ method_12_code 3 (some FieldType.int) [(0, 5, 8, 15), (0, 5, 11, 13), (0, 5, 14, 50)]) := ⟨List.mem_append_right _ (List.mem_of_getElem? (i := 583) rfl), rfl⟩
set_option maxRecDepth 10000 in
theorem wd_584 : ex_W (.classLink "StreamTowerLaw" 50 "java/lang/UnsupportedOperationException") := ⟨List.mem_append_right _ (List.mem_of_getElem? (i := 584) rfl), rfl⟩
set_option maxRecDepth 10000 in
theorem wd_585 : ex_W (.methodLink "StreamTowerLaw" 47 ⟨"StreamTower", "mark", "(I)V"⟩) := ⟨List.mem_append_right _ (List.mem_of_getElem? (i := 585) rfl), rfl⟩
set_option maxRecDepth 10000 in
theorem wd_586 : ex_W (.instanceMethod ⟨"StreamTower", "mark", "(I)V"⟩) := ⟨List.mem_append_right _ (List.mem_of_getElem? (i := 586) rfl), rfl⟩
set_option maxRecDepth 10000 in
theorem wd_587 : ex_W (.selects "StreamTower" ⟨"StreamTower", "mark", "(I)V"⟩ ⟨"StreamTower", "mark", "(I)V"⟩) := ⟨List.mem_append_right _ (List.mem_of_getElem? (i := 587) rfl), rfl⟩
set_option maxRecDepth 10000 in
theorem wd_588 : ex_W (.code ⟨"StreamTower", "mark", "(I)V"⟩ prog_1_method_13_code 2 none) := ⟨List.mem_append_right _ (List.mem_of_getElem? (i := 588) rfl), rfl⟩
set_option maxRecDepth 10000 in
theorem wd_589 : ex_W (.methodLink "StreamTower" 121 ⟨"StreamTower$Stream", "canBeMarked", "()Z"⟩) := ⟨List.mem_append_right _ (List.mem_of_getElem? (i := 589) rfl), rfl⟩
set_option maxRecDepth 10000 in
theorem wd_590 : ex_W (.instanceMethod ⟨"StreamTower$Stream", "canBeMarked", "()Z"⟩) := ⟨List.mem_append_right _ (List.mem_of_getElem? (i := 590) rfl), rfl⟩
set_option maxRecDepth 10000 in
theorem wd_591 : ex_W (.sameMethod "StreamTower$Stream" "StreamTower$Stream" "canBeMarked" "()Z") := ⟨List.mem_append_right _ (List.mem_of_getElem? (i := 591) rfl), rfl⟩
set_option maxRecDepth 10000 in
theorem wd_592 : ex_W (.selects "StreamTower$Buffer" ⟨"StreamTower$Stream", "canBeMarked", "()Z"⟩ ⟨"StreamTower$Buffer", "canBeMarked", "()Z"⟩) := ⟨List.mem_append_right _ (List.mem_of_getElem? (i := 592) rfl), rfl⟩
set_option maxRecDepth 10000 in
theorem wd_593 : ex_W (.instanceMethod ⟨"StreamTower$Buffer", "canBeMarked", "()Z"⟩) := ⟨List.mem_append_right _ (List.mem_of_getElem? (i := 593) rfl), rfl⟩
set_option maxRecDepth 10000 in
theorem wd_594 : ex_W (.code ⟨"StreamTower$Buffer", "canBeMarked", "()Z"⟩ prog_2_method_7_code 1 (some FieldType.boolean)) := ⟨List.mem_append_right _ (List.mem_of_getElem? (i := 594) rfl), rfl⟩
set_option maxRecDepth 10000 in
theorem wd_595 : ex_W (.selects "StreamTower$Code" ⟨"StreamTower$Stream", "canBeMarked", "()Z"⟩ ⟨"StreamTower$Passing", "canBeMarked", "()Z"⟩) := ⟨List.mem_append_right _ (List.mem_of_getElem? (i := 595) rfl), rfl⟩
set_option maxRecDepth 10000 in
theorem wd_596 : ex_W (.instanceMethod ⟨"StreamTower$Passing", "canBeMarked", "()Z"⟩) := ⟨List.mem_append_right _ (List.mem_of_getElem? (i := 596) rfl), rfl⟩
set_option maxRecDepth 10000 in
theorem wd_597 : ex_W (.code ⟨"StreamTower$Passing", "canBeMarked", "()Z"⟩ prog_6_method_5_code 1 (some FieldType.boolean)) := ⟨List.mem_append_right _ (List.mem_of_getElem? (i := 597) rfl), rfl⟩
set_option maxRecDepth 10000 in
theorem wd_598 : ex_W (.methodLink "StreamTower$Passing" 17 ⟨"StreamTower$Stream", "canBeMarked", "()Z"⟩) := ⟨List.mem_append_right _ (List.mem_of_getElem? (i := 598) rfl), rfl⟩
set_option maxRecDepth 10000 in
theorem wd_599 : ex_W (.selects "StreamTower$Limit" ⟨"StreamTower$Stream", "canBeMarked", "()Z"⟩ ⟨"StreamTower$Passing", "canBeMarked", "()Z"⟩) := ⟨List.mem_append_right _ (List.mem_of_getElem? (i := 599) rfl), rfl⟩
set_option maxRecDepth 10000 in
theorem wd_600 : ex_W (.selects "StreamTower$Lines" ⟨"StreamTower$Stream", "canBeMarked", "()Z"⟩ ⟨"StreamTower$Passing", "canBeMarked", "()Z"⟩) := ⟨List.mem_append_right _ (List.mem_of_getElem? (i := 600) rfl), rfl⟩
set_option maxRecDepth 10000 in
theorem wd_601 : ex_W (.selects "StreamTower$Pushback" ⟨"StreamTower$Stream", "canBeMarked", "()Z"⟩ ⟨"StreamTower$Stream", "canBeMarked", "()Z"⟩) := ⟨List.mem_append_right _ (List.mem_of_getElem? (i := 601) rfl), rfl⟩
set_option maxRecDepth 10000 in
theorem wd_602 : ex_W (.selects "StreamTower$Source" ⟨"StreamTower$Stream", "canBeMarked", "()Z"⟩ ⟨"StreamTower$Stream", "canBeMarked", "()Z"⟩) := ⟨List.mem_append_right _ (List.mem_of_getElem? (i := 602) rfl), rfl⟩
set_option maxRecDepth 10000 in
theorem wd_603 : ex_W (.code ⟨"StreamTower$Stream", "canBeMarked", "()Z"⟩ prog_10_method_5_code 1 (some FieldType.boolean)) := ⟨List.mem_append_right _ (List.mem_of_getElem? (i := 603) rfl), rfl⟩
set_option maxRecDepth 10000 in
theorem wd_604 : ex_W (.classLink "StreamTower" 125 "java/lang/UnsupportedOperationException") := ⟨List.mem_append_right _ (List.mem_of_getElem? (i := 604) rfl), rfl⟩
set_option maxRecDepth 10000 in
theorem wd_605 : ex_W (.instantiable "java/lang/UnsupportedOperationException" 6) := ⟨List.mem_append_right _ (List.mem_of_getElem? (i := 605) rfl), rfl⟩
set_option maxRecDepth 10000 in
theorem wd_606 : ex_W (.castable "java/lang/UnsupportedOperationException" "java/lang/UnsupportedOperationException") := ⟨List.mem_append_right _ (List.mem_of_getElem? (i := 606) rfl), rfl⟩
set_option maxRecDepth 10000 in
theorem wd_607 : ex_W (.selects "java/lang/UnsupportedOperationException" ⟨"java/lang/Throwable", "fillInStackTrace", "(I)Ljava/lang/Throwable;"⟩ ⟨"java/lang/Throwable", "fillInStackTrace", "(I)Ljava/lang/Throwable;"⟩) := ⟨List.mem_append_right _ (List.mem_of_getElem? (i := 607) rfl), rfl⟩
set_option maxRecDepth 10000 in
theorem wd_608 : ex_W (.lays "java/lang/UnsupportedOperationException" "java/lang/Throwable" "cause" "Ljava/lang/Throwable;") := ⟨List.mem_append_right _ (List.mem_of_getElem? (i := 608) rfl), rfl⟩
set_option maxRecDepth 10000 in
theorem wd_609 : ex_W (.lays "java/lang/UnsupportedOperationException" "java/lang/Throwable" "stackTrace" "[Ljava/lang/StackTraceElement;") := ⟨List.mem_append_right _ (List.mem_of_getElem? (i := 609) rfl), rfl⟩
set_option maxRecDepth 10000 in
theorem wd_610 : ex_W (.lays "java/lang/UnsupportedOperationException" "java/lang/Throwable" "suppressedExceptions" "Ljava/util/List;") := ⟨List.mem_append_right _ (List.mem_of_getElem? (i := 610) rfl), rfl⟩
set_option maxRecDepth 10000 in
theorem wd_611 : ex_W (.lays "java/lang/UnsupportedOperationException" "java/lang/Throwable" "detailMessage" "Ljava/lang/String;") := ⟨List.mem_append_right _ (List.mem_of_getElem? (i := 611) rfl), rfl⟩
set_option maxRecDepth 10000 in
theorem wd_612 : ex_W (.lays "java/lang/UnsupportedOperationException" "java/lang/Throwable" "backtrace" "Ljava/lang/Object;") := ⟨List.mem_append_right _ (List.mem_of_getElem? (i := 612) rfl), rfl⟩
set_option maxRecDepth 10000 in
theorem wd_613 : ex_W (.methodLink "StreamTower" 127 ⟨"java/lang/UnsupportedOperationException", "<init>", "()V"⟩) := ⟨List.mem_append_right _ (List.mem_of_getElem? (i := 613) rfl), rfl⟩
set_option maxRecDepth 10000 in
theorem wd_614 : ex_W (.instanceMethod ⟨"java/lang/UnsupportedOperationException", "<init>", "()V"⟩) := ⟨List.mem_append_right _ (List.mem_of_getElem? (i := 614) rfl), rfl⟩
set_option maxRecDepth 10000 in
theorem wd_615 : ex_W (.code ⟨"java/lang/UnsupportedOperationException", "<init>", "()V"⟩ prog_20_method_1_code 1 none) := ⟨List.mem_append_right _ (List.mem_of_getElem? (i := 615) rfl), rfl⟩
set_option maxRecDepth 10000 in
theorem wd_616 : ex_W (.methodLink "java/lang/UnsupportedOperationException" 1 ⟨"java/lang/RuntimeException", "<init>", "()V"⟩) := ⟨List.mem_append_right _ (List.mem_of_getElem? (i := 616) rfl), rfl⟩
set_option maxRecDepth 10000 in
theorem wd_617 : ex_W (.lays "java/lang/UnsupportedOperationException" "java/lang/Throwable" "depth" "I") := ⟨List.mem_append_right _ (List.mem_of_getElem? (i := 617) rfl), rfl⟩
set_option maxRecDepth 10000 in
theorem wd_618 : ex_W (.superclass "java/lang/UnsupportedOperationException" "java/lang/RuntimeException") := ⟨List.mem_append_right _ (List.mem_of_getElem? (i := 618) rfl), rfl⟩
set_option maxRecDepth 10000 in
theorem wd_619 : ex_W (.methodLink "StreamTower" 128 ⟨"StreamTower$Stream", "takeMark", "(I)V"⟩) := ⟨List.mem_append_right _ (List.mem_of_getElem? (i := 619) rfl), rfl⟩
set_option maxRecDepth 10000 in
theorem wd_620 : ex_W (.instanceMethod ⟨"StreamTower$Stream", "takeMark", "(I)V"⟩) := ⟨List.mem_append_right _ (List.mem_of_getElem? (i := 620) rfl), rfl⟩
set_option maxRecDepth 10000 in
theorem wd_621 : ex_W (.sameMethod "StreamTower$Stream" "StreamTower$Stream" "takeMark" "(I)V") := ⟨List.mem_append_right _ (List.mem_of_getElem? (i := 621) rfl), rfl⟩
set_option maxRecDepth 10000 in
theorem wd_622 : ex_W (.selects "StreamTower$Buffer" ⟨"StreamTower$Stream", "takeMark", "(I)V"⟩ ⟨"StreamTower$Buffer", "takeMark", "(I)V"⟩) := ⟨List.mem_append_right _ (List.mem_of_getElem? (i := 622) rfl), rfl⟩
set_option maxRecDepth 10000 in
theorem wd_623 : ex_W (.instanceMethod ⟨"StreamTower$Buffer", "takeMark", "(I)V"⟩) := ⟨List.mem_append_right _ (List.mem_of_getElem? (i := 623) rfl), rfl⟩
set_option maxRecDepth 10000 in
theorem wd_624 : ex_W (.code ⟨"StreamTower$Buffer", "takeMark", "(I)V"⟩ prog_2_method_9_code 2 none) := ⟨List.mem_append_right _ (List.mem_of_getElem? (i := 624) rfl), rfl⟩
set_option maxRecDepth 10000 in
theorem wd_625 : ex_W (.selects "StreamTower$Code" ⟨"StreamTower$Stream", "takeMark", "(I)V"⟩ ⟨"StreamTower$Passing", "takeMark", "(I)V"⟩) := ⟨List.mem_append_right _ (List.mem_of_getElem? (i := 625) rfl), rfl⟩
set_option maxRecDepth 10000 in
theorem wd_626 : ex_W (.instanceMethod ⟨"StreamTower$Passing", "takeMark", "(I)V"⟩) := ⟨List.mem_append_right _ (List.mem_of_getElem? (i := 626) rfl), rfl⟩
set_option maxRecDepth 10000 in
theorem wd_627 : ex_W (.code ⟨"StreamTower$Passing", "takeMark", "(I)V"⟩ prog_6_method_7_code 2 none) := ⟨List.mem_append_right _ (List.mem_of_getElem? (i := 627) rfl), rfl⟩
set_option maxRecDepth 10000 in
theorem wd_628 : ex_W (.methodLink "StreamTower$Passing" 24 ⟨"StreamTower$Stream", "takeMark", "(I)V"⟩) := ⟨List.mem_append_right _ (List.mem_of_getElem? (i := 628) rfl), rfl⟩
set_option maxRecDepth 10000 in
theorem wd_629 : ex_W (.methodLink "StreamTower$Passing" 28 ⟨"StreamTower$Passing", "remember", "()V"⟩) := ⟨List.mem_append_right _ (List.mem_of_getElem? (i := 629) rfl), rfl⟩
set_option maxRecDepth 10000 in
theorem wd_630 : ex_W (.declares ⟨"StreamTower$Passing", "remember", "()V"⟩) := ⟨List.mem_append_right _ (List.mem_of_getElem? (i := 630) rfl), rfl⟩
set_option maxRecDepth 10000 in
theorem wd_631 : ex_W (.sameMethod "StreamTower$Passing" "StreamTower$Passing" "remember" "()V") := ⟨List.mem_append_right _ (List.mem_of_getElem? (i := 631) rfl), rfl⟩
set_option maxRecDepth 10000 in
theorem wd_632 : ex_W (.selects "StreamTower$Code" ⟨"StreamTower$Passing", "remember", "()V"⟩ ⟨"StreamTower$Code", "remember", "()V"⟩) := ⟨List.mem_append_right _ (List.mem_of_getElem? (i := 632) rfl), rfl⟩
set_option maxRecDepth 10000 in
theorem wd_633 : ex_W (.instanceMethod ⟨"StreamTower$Code", "remember", "()V"⟩) := ⟨List.mem_append_right _ (List.mem_of_getElem? (i := 633) rfl), rfl⟩
set_option maxRecDepth 10000 in
theorem wd_634 : ex_W (.code ⟨"StreamTower$Code", "remember", "()V"⟩ prog_3_method_4_code 1 none) := ⟨List.mem_append_right _ (List.mem_of_getElem? (i := 634) rfl), rfl⟩
set_option maxRecDepth 10000 in
theorem wd_635 : ex_W (.selects "StreamTower$Limit" ⟨"StreamTower$Passing", "remember", "()V"⟩ ⟨"StreamTower$Limit", "remember", "()V"⟩) := ⟨List.mem_append_right _ (List.mem_of_getElem? (i := 635) rfl), rfl⟩
set_option maxRecDepth 10000 in
theorem wd_636 : ex_W (.instanceMethod ⟨"StreamTower$Limit", "remember", "()V"⟩) := ⟨List.mem_append_right _ (List.mem_of_getElem? (i := 636) rfl), rfl⟩
set_option maxRecDepth 10000 in
theorem wd_637 : ex_W (.code ⟨"StreamTower$Limit", "remember", "()V"⟩ prog_4_method_5_code 1 none) := ⟨List.mem_append_right _ (List.mem_of_getElem? (i := 637) rfl), rfl⟩
set_option maxRecDepth 10000 in
theorem wd_638 : ex_W (.selects "StreamTower$Lines" ⟨"StreamTower$Passing", "remember", "()V"⟩ ⟨"StreamTower$Lines", "remember", "()V"⟩) := ⟨List.mem_append_right _ (List.mem_of_getElem? (i := 638) rfl), rfl⟩
set_option maxRecDepth 10000 in
theorem wd_639 : ex_W (.instanceMethod ⟨"StreamTower$Lines", "remember", "()V"⟩) := ⟨List.mem_append_right _ (List.mem_of_getElem? (i := 639) rfl), rfl⟩
set_option maxRecDepth 10000 in
theorem wd_640 : ex_W (.code ⟨"StreamTower$Lines", "remember", "()V"⟩ prog_5_method_5_code 1 none) := ⟨List.mem_append_right _ (List.mem_of_getElem? (i := 640) rfl), rfl⟩
set_option maxRecDepth 10000 in
theorem wd_641 : ex_W (.selects "StreamTower$Limit" ⟨"StreamTower$Stream", "takeMark", "(I)V"⟩ ⟨"StreamTower$Passing", "takeMark", "(I)V"⟩) := ⟨List.mem_append_right _ (List.mem_of_getElem? (i := 641) rfl), rfl⟩
set_option maxRecDepth 10000 in
theorem wd_642 : ex_W (.selects "StreamTower$Lines" ⟨"StreamTower$Stream", "takeMark", "(I)V"⟩ ⟨"StreamTower$Passing", "takeMark", "(I)V"⟩) := ⟨List.mem_append_right _ (List.mem_of_getElem? (i := 642) rfl), rfl⟩
set_option maxRecDepth 10000 in
theorem wd_643 : ex_W (.selects "StreamTower$Pushback" ⟨"StreamTower$Stream", "takeMark", "(I)V"⟩ ⟨"StreamTower$Stream", "takeMark", "(I)V"⟩) := ⟨List.mem_append_right _ (List.mem_of_getElem? (i := 643) rfl), rfl⟩
set_option maxRecDepth 10000 in
theorem wd_644 : ex_W (.selects "StreamTower$Source" ⟨"StreamTower$Stream", "takeMark", "(I)V"⟩ ⟨"StreamTower$Stream", "takeMark", "(I)V"⟩) := ⟨List.mem_append_right _ (List.mem_of_getElem? (i := 644) rfl), rfl⟩
set_option maxRecDepth 10000 in
theorem wd_645 : ex_W (.code ⟨"StreamTower$Stream", "takeMark", "(I)V"⟩ prog_10_method_7_code 2 none) := ⟨List.mem_append_right _ (List.mem_of_getElem? (i := 645) rfl), rfl⟩
set_option maxRecDepth 10000 in
theorem wd_646 : ex_W (.methodLink "StreamTowerLaw" 110 ⟨"StreamTowerLaw", "reset", "(LStreamTower;)I"⟩) := ⟨List.mem_append_right _ (List.mem_of_getElem? (i := 646) rfl), rfl⟩
set_option maxRecDepth 10000 in
theorem wd_647 : ex_W (.static ⟨"StreamTowerLaw", "reset", "(LStreamTower;)I"⟩) := ⟨List.mem_append_right _ (List.mem_of_getElem? (i := 647) rfl), rfl⟩
set_option maxRecDepth 10000 in
theorem wd_648 : ex_W (.codeWith ⟨"StreamTowerLaw", "reset", "(LStreamTower;)I"⟩ method_13_code 2 (some FieldType.int) [(0, 4, 7, 15), (0, 4, 10, 50)]) := ⟨List.mem_append_right _ (List.mem_of_getElem? (i := 648) rfl), rfl⟩
set_option maxRecDepth 10000 in
theorem wd_649 : ex_W (.methodLink "StreamTowerLaw" 52 ⟨"StreamTower", "reset", "()V"⟩) := ⟨List.mem_append_right _ (List.mem_of_getElem? (i := 649) rfl), rfl⟩
set_option maxRecDepth 10000 in
theorem wd_650 : ex_W (.instanceMethod ⟨"StreamTower", "reset", "()V"⟩) := ⟨List.mem_append_right _ (List.mem_of_getElem? (i := 650) rfl), rfl⟩
set_option maxRecDepth 10000 in
theorem wd_651 : ex_W (.selects "StreamTower" ⟨"StreamTower", "reset", "()V"⟩ ⟨"StreamTower", "reset", "()V"⟩) := ⟨List.mem_append_right _ (List.mem_of_getElem? (i := 651) rfl), rfl⟩
set_option maxRecDepth 10000 in
theorem wd_652 : ex_W (.code ⟨"StreamTower", "reset", "()V"⟩ prog_1_method_14_code 1 none) := ⟨List.mem_append_right _ (List.mem_of_getElem? (i := 652) rfl), rfl⟩
set_option maxRecDepth 10000 in
theorem wd_653 : ex_W (.methodLink "StreamTower" 134 ⟨"StreamTower$Stream", "hasMark", "()Z"⟩) := ⟨List.mem_append_right _ (List.mem_of_getElem? (i := 653) rfl), rfl⟩
set_option maxRecDepth 10000 in
theorem wd_654 : ex_W (.instanceMethod ⟨"StreamTower$Stream", "hasMark", "()Z"⟩) := ⟨List.mem_append_right _ (List.mem_of_getElem? (i := 654) rfl), rfl⟩
set_option maxRecDepth 10000 in
theorem wd_655 : ex_W (.sameMethod "StreamTower$Stream" "StreamTower$Stream" "hasMark" "()Z") := ⟨List.mem_append_right _ (List.mem_of_getElem? (i := 655) rfl), rfl⟩
set_option maxRecDepth 10000 in
theorem wd_656 : ex_W (.selects "StreamTower$Buffer" ⟨"StreamTower$Stream", "hasMark", "()Z"⟩ ⟨"StreamTower$Buffer", "hasMark", "()Z"⟩) := ⟨List.mem_append_right _ (List.mem_of_getElem? (i := 656) rfl), rfl⟩
set_option maxRecDepth 10000 in
theorem wd_657 : ex_W (.instanceMethod ⟨"StreamTower$Buffer", "hasMark", "()Z"⟩) := ⟨List.mem_append_right _ (List.mem_of_getElem? (i := 657) rfl), rfl⟩
set_option maxRecDepth 10000 in
theorem wd_658 : ex_W (.code ⟨"StreamTower$Buffer", "hasMark", "()Z"⟩ prog_2_method_8_code 1 (some FieldType.boolean)) := ⟨List.mem_append_right _ (List.mem_of_getElem? (i := 658) rfl), rfl⟩
set_option maxRecDepth 10000 in
theorem wd_659 : ex_W (.selects "StreamTower$Code" ⟨"StreamTower$Stream", "hasMark", "()Z"⟩ ⟨"StreamTower$Passing", "hasMark", "()Z"⟩) := ⟨List.mem_append_right _ (List.mem_of_getElem? (i := 659) rfl), rfl⟩
set_option maxRecDepth 10000 in
theorem wd_660 : ex_W (.instanceMethod ⟨"StreamTower$Passing", "hasMark", "()Z"⟩) := ⟨List.mem_append_right _ (List.mem_of_getElem? (i := 660) rfl), rfl⟩
set_option maxRecDepth 10000 in
theorem wd_661 : ex_W (.code ⟨"StreamTower$Passing", "hasMark", "()Z"⟩ prog_6_method_6_code 1 (some FieldType.boolean)) := ⟨List.mem_append_right _ (List.mem_of_getElem? (i := 661) rfl), rfl⟩
set_option maxRecDepth 10000 in
theorem wd_662 : ex_W (.methodLink "StreamTower$Passing" 21 ⟨"StreamTower$Stream", "hasMark", "()Z"⟩) := ⟨List.mem_append_right _ (List.mem_of_getElem? (i := 662) rfl), rfl⟩
set_option maxRecDepth 10000 in
theorem wd_663 : ex_W (.selects "StreamTower$Limit" ⟨"StreamTower$Stream", "hasMark", "()Z"⟩ ⟨"StreamTower$Passing", "hasMark", "()Z"⟩) := ⟨List.mem_append_right _ (List.mem_of_getElem? (i := 663) rfl), rfl⟩
set_option maxRecDepth 10000 in
theorem wd_664 : ex_W (.selects "StreamTower$Lines" ⟨"StreamTower$Stream", "hasMark", "()Z"⟩ ⟨"StreamTower$Passing", "hasMark", "()Z"⟩) := ⟨List.mem_append_right _ (List.mem_of_getElem? (i := 664) rfl), rfl⟩
set_option maxRecDepth 10000 in
theorem wd_665 : ex_W (.selects "StreamTower$Pushback" ⟨"StreamTower$Stream", "hasMark", "()Z"⟩ ⟨"StreamTower$Stream", "hasMark", "()Z"⟩) := ⟨List.mem_append_right _ (List.mem_of_getElem? (i := 665) rfl), rfl⟩
set_option maxRecDepth 10000 in
theorem wd_666 : ex_W (.selects "StreamTower$Source" ⟨"StreamTower$Stream", "hasMark", "()Z"⟩ ⟨"StreamTower$Stream", "hasMark", "()Z"⟩) := ⟨List.mem_append_right _ (List.mem_of_getElem? (i := 666) rfl), rfl⟩
set_option maxRecDepth 10000 in
theorem wd_667 : ex_W (.code ⟨"StreamTower$Stream", "hasMark", "()Z"⟩ prog_10_method_6_code 1 (some FieldType.boolean)) := ⟨List.mem_append_right _ (List.mem_of_getElem? (i := 667) rfl), rfl⟩
set_option maxRecDepth 10000 in
theorem wd_668 : ex_W (.methodLink "StreamTower" 137 ⟨"StreamTower$Stream", "goBack", "()V"⟩) := ⟨List.mem_append_right _ (List.mem_of_getElem? (i := 668) rfl), rfl⟩
set_option maxRecDepth 10000 in
theorem wd_669 : ex_W (.instanceMethod ⟨"StreamTower$Stream", "goBack", "()V"⟩) := ⟨List.mem_append_right _ (List.mem_of_getElem? (i := 669) rfl), rfl⟩
set_option maxRecDepth 10000 in
theorem wd_670 : ex_W (.sameMethod "StreamTower$Stream" "StreamTower$Stream" "goBack" "()V") := ⟨List.mem_append_right _ (List.mem_of_getElem? (i := 670) rfl), rfl⟩
set_option maxRecDepth 10000 in
theorem wd_671 : ex_W (.selects "StreamTower$Buffer" ⟨"StreamTower$Stream", "goBack", "()V"⟩ ⟨"StreamTower$Buffer", "goBack", "()V"⟩) := ⟨List.mem_append_right _ (List.mem_of_getElem? (i := 671) rfl), rfl⟩
set_option maxRecDepth 10000 in
theorem wd_672 : ex_W (.instanceMethod ⟨"StreamTower$Buffer", "goBack", "()V"⟩) := ⟨List.mem_append_right _ (List.mem_of_getElem? (i := 672) rfl), rfl⟩
set_option maxRecDepth 10000 in
theorem wd_673 : ex_W (.code ⟨"StreamTower$Buffer", "goBack", "()V"⟩ prog_2_method_10_code 1 none) := ⟨List.mem_append_right _ (List.mem_of_getElem? (i := 673) rfl), rfl⟩
set_option maxRecDepth 10000 in
theorem wd_674 : ex_W (.selects "StreamTower$Code" ⟨"StreamTower$Stream", "goBack", "()V"⟩ ⟨"StreamTower$Passing", "goBack", "()V"⟩) := ⟨List.mem_append_right _ (List.mem_of_getElem? (i := 674) rfl), rfl⟩
set_option maxRecDepth 10000 in
theorem wd_675 : ex_W (.instanceMethod ⟨"StreamTower$Passing", "goBack", "()V"⟩) := ⟨List.mem_append_right _ (List.mem_of_getElem? (i := 675) rfl), rfl⟩
set_option maxRecDepth 10000 in
theorem wd_676 : ex_W (.code ⟨"StreamTower$Passing", "goBack", "()V"⟩ prog_6_method_8_code 1 none) := ⟨List.mem_append_right _ (List.mem_of_getElem? (i := 676) rfl), rfl⟩
set_option maxRecDepth 10000 in
theorem wd_677 : ex_W (.methodLink "StreamTower$Passing" 31 ⟨"StreamTower$Stream", "goBack", "()V"⟩) := ⟨List.mem_append_right _ (List.mem_of_getElem? (i := 677) rfl), rfl⟩
set_option maxRecDepth 10000 in
theorem wd_678 : ex_W (.methodLink "StreamTower$Passing" 34 ⟨"StreamTower$Passing", "recall", "()V"⟩) := ⟨List.mem_append_right _ (List.mem_of_getElem? (i := 678) rfl), rfl⟩
set_option maxRecDepth 10000 in
theorem wd_679 : ex_W (.declares ⟨"StreamTower$Passing", "recall", "()V"⟩) := ⟨List.mem_append_right _ (List.mem_of_getElem? (i := 679) rfl), rfl⟩
set_option maxRecDepth 10000 in
theorem wd_680 : ex_W (.sameMethod "StreamTower$Passing" "StreamTower$Passing" "recall" "()V") := ⟨List.mem_append_right _ (List.mem_of_getElem? (i := 680) rfl), rfl⟩
set_option maxRecDepth 10000 in
theorem wd_681 : ex_W (.selects "StreamTower$Code" ⟨"StreamTower$Passing", "recall", "()V"⟩ ⟨"StreamTower$Code", "recall", "()V"⟩) := ⟨List.mem_append_right _ (List.mem_of_getElem? (i := 681) rfl), rfl⟩
set_option maxRecDepth 10000 in
theorem wd_682 : ex_W (.instanceMethod ⟨"StreamTower$Code", "recall", "()V"⟩) := ⟨List.mem_append_right _ (List.mem_of_getElem? (i := 682) rfl), rfl⟩
set_option maxRecDepth 10000 in
theorem wd_683 : ex_W (.code ⟨"StreamTower$Code", "recall", "()V"⟩ prog_3_method_5_code 1 none) := ⟨List.mem_append_right _ (List.mem_of_getElem? (i := 683) rfl), rfl⟩
set_option maxRecDepth 10000 in
theorem wd_684 : ex_W (.selects "StreamTower$Limit" ⟨"StreamTower$Passing", "recall", "()V"⟩ ⟨"StreamTower$Limit", "recall", "()V"⟩) := ⟨List.mem_append_right _ (List.mem_of_getElem? (i := 684) rfl), rfl⟩
set_option maxRecDepth 10000 in
theorem wd_685 : ex_W (.instanceMethod ⟨"StreamTower$Limit", "recall", "()V"⟩) := ⟨List.mem_append_right _ (List.mem_of_getElem? (i := 685) rfl), rfl⟩
set_option maxRecDepth 10000 in
theorem wd_686 : ex_W (.code ⟨"StreamTower$Limit", "recall", "()V"⟩ prog_4_method_6_code 1 none) := ⟨List.mem_append_right _ (List.mem_of_getElem? (i := 686) rfl), rfl⟩
set_option maxRecDepth 10000 in
theorem wd_687 : ex_W (.selects "StreamTower$Lines" ⟨"StreamTower$Passing", "recall", "()V"⟩ ⟨"StreamTower$Lines", "recall", "()V"⟩) := ⟨List.mem_append_right _ (List.mem_of_getElem? (i := 687) rfl), rfl⟩
set_option maxRecDepth 10000 in
theorem wd_688 : ex_W (.instanceMethod ⟨"StreamTower$Lines", "recall", "()V"⟩) := ⟨List.mem_append_right _ (List.mem_of_getElem? (i := 688) rfl), rfl⟩
set_option maxRecDepth 10000 in
theorem wd_689 : ex_W (.code ⟨"StreamTower$Lines", "recall", "()V"⟩ prog_5_method_6_code 1 none) := ⟨List.mem_append_right _ (List.mem_of_getElem? (i := 689) rfl), rfl⟩
set_option maxRecDepth 10000 in
theorem wd_690 : ex_W (.selects "StreamTower$Limit" ⟨"StreamTower$Stream", "goBack", "()V"⟩ ⟨"StreamTower$Passing", "goBack", "()V"⟩) := ⟨List.mem_append_right _ (List.mem_of_getElem? (i := 690) rfl), rfl⟩
set_option maxRecDepth 10000 in
theorem wd_691 : ex_W (.selects "StreamTower$Lines" ⟨"StreamTower$Stream", "goBack", "()V"⟩ ⟨"StreamTower$Passing", "goBack", "()V"⟩) := ⟨List.mem_append_right _ (List.mem_of_getElem? (i := 691) rfl), rfl⟩
set_option maxRecDepth 10000 in
theorem wd_692 : ex_W (.selects "StreamTower$Pushback" ⟨"StreamTower$Stream", "goBack", "()V"⟩ ⟨"StreamTower$Stream", "goBack", "()V"⟩) := ⟨List.mem_append_right _ (List.mem_of_getElem? (i := 692) rfl), rfl⟩
set_option maxRecDepth 10000 in
theorem wd_693 : ex_W (.selects "StreamTower$Source" ⟨"StreamTower$Stream", "goBack", "()V"⟩ ⟨"StreamTower$Stream", "goBack", "()V"⟩) := ⟨List.mem_append_right _ (List.mem_of_getElem? (i := 693) rfl), rfl⟩
set_option maxRecDepth 10000 in
theorem wd_694 : ex_W (.code ⟨"StreamTower$Stream", "goBack", "()V"⟩ prog_10_method_8_code 1 none) := ⟨List.mem_append_right _ (List.mem_of_getElem? (i := 694) rfl), rfl⟩
set_option maxRecDepth 10000 in
theorem wd_695 : ex_W (.methodLink "StreamTowerLaw" 114 ⟨"StreamTowerLaw", "unread", "(LStreamTower;I)I"⟩) := ⟨List.mem_append_right _ (List.mem_of_getElem? (i := 695) rfl), rfl⟩
set_option maxRecDepth 10000 in
theorem wd_696 : ex_W (.static ⟨"StreamTowerLaw", "unread", "(LStreamTower;I)I"⟩) := ⟨List.mem_append_right _ (List.mem_of_getElem? (i := 696) rfl), rfl⟩
set_option maxRecDepth 10000 in
theorem wd_697 : ex_W (.codeWith ⟨"StreamTowerLaw", "unread", "(LStreamTower;I)I"⟩ method_14_code 3 (some FieldType.int) [(0, 5, 8, 15), (0, 5, 11, 13), (0, 5, 14, 50)]) := ⟨List.mem_append_right _ (List.mem_of_getElem? (i := 697) rfl), rfl⟩
set_option maxRecDepth 10000 in
theorem wd_698 : ex_W (.methodLink "StreamTowerLaw" 55 ⟨"StreamTower", "unread", "(I)V"⟩) := ⟨List.mem_append_right _ (List.mem_of_getElem? (i := 698) rfl), rfl⟩
set_option maxRecDepth 10000 in
theorem wd_699 : ex_W (.instanceMethod ⟨"StreamTower", "unread", "(I)V"⟩) := ⟨List.mem_append_right _ (List.mem_of_getElem? (i := 699) rfl), rfl⟩
set_option maxRecDepth 10000 in
theorem wd_700 : ex_W (.selects "StreamTower" ⟨"StreamTower", "unread", "(I)V"⟩ ⟨"StreamTower", "unread", "(I)V"⟩) := ⟨List.mem_append_right _ (List.mem_of_getElem? (i := 700) rfl), rfl⟩
set_option maxRecDepth 10000 in
theorem wd_701 : ex_W (.code ⟨"StreamTower", "unread", "(I)V"⟩ prog_1_method_15_code 3 none) := ⟨List.mem_append_right _ (List.mem_of_getElem? (i := 701) rfl), rfl⟩
set_option maxRecDepth 10000 in
theorem wd_702 : ex_W (.methodLink "StreamTower" 142 ⟨"StreamTower$Pushback", "putBack", "(I)Z"⟩) := ⟨List.mem_append_right _ (List.mem_of_getElem? (i := 702) rfl), rfl⟩
set_option maxRecDepth 10000 in
theorem wd_703 : ex_W (.instanceMethod ⟨"StreamTower$Pushback", "putBack", "(I)Z"⟩) := ⟨List.mem_append_right _ (List.mem_of_getElem? (i := 703) rfl), rfl⟩
set_option maxRecDepth 10000 in
theorem wd_704 : ex_W (.selects "StreamTower$Pushback" ⟨"StreamTower$Pushback", "putBack", "(I)Z"⟩ ⟨"StreamTower$Pushback", "putBack", "(I)Z"⟩) := ⟨List.mem_append_right _ (List.mem_of_getElem? (i := 704) rfl), rfl⟩
set_option maxRecDepth 10000 in
theorem wd_705 : ex_W (.code ⟨"StreamTower$Pushback", "putBack", "(I)Z"⟩ prog_7_method_2_code 2 (some FieldType.boolean)) := ⟨List.mem_append_right _ (List.mem_of_getElem? (i := 705) rfl), rfl⟩
set_option maxRecDepth 10000 in
theorem wd_706 : ex_W (.classLink "StreamTowerLaw" 59 "StreamTowerModel") := ⟨List.mem_append_right _ (List.mem_of_getElem? (i := 706) rfl), rfl⟩
set_option maxRecDepth 10000 in
theorem wd_707 : ex_W (.instantiable "StreamTowerModel" 28) := ⟨List.mem_append_right _ (List.mem_of_getElem? (i := 707) rfl), rfl⟩
set_option maxRecDepth 10000 in
theorem wd_708 : ex_W (.methodLink "StreamTowerLaw" 61 ⟨"StreamTowerModel", "<init>", "()V"⟩) := ⟨List.mem_append_right _ (List.mem_of_getElem? (i := 708) rfl), rfl⟩
set_option maxRecDepth 10000 in
theorem wd_709 : ex_W (.instanceMethod ⟨"StreamTowerModel", "<init>", "()V"⟩) := ⟨List.mem_append_right _ (List.mem_of_getElem? (i := 709) rfl), rfl⟩
set_option maxRecDepth 10000 in
theorem wd_710 : ex_W (.code ⟨"StreamTowerModel", "<init>", "()V"⟩ prog_12_method_1_code 1 none) := ⟨List.mem_append_right _ (List.mem_of_getElem? (i := 710) rfl), rfl⟩
set_option maxRecDepth 10000 in
theorem wd_711 : ex_W (.methodLink "StreamTowerModel" 1 ⟨"java/lang/Object", "<init>", "()V"⟩) := ⟨List.mem_append_right _ (List.mem_of_getElem? (i := 711) rfl), rfl⟩
set_option maxRecDepth 10000 in
theorem wd_712 : ex_W (.fieldLink "StreamTowerModel" 65 "StreamTowerModel" "code" "I") := ⟨List.mem_append_right _ (List.mem_of_getElem? (i := 712) rfl), rfl⟩
set_option maxRecDepth 10000 in
theorem wd_713 : ex_W (.fieldLink "StreamTowerModel" 7 "StreamTowerModel" "source" "[I") := ⟨List.mem_append_right _ (List.mem_of_getElem? (i := 713) rfl), rfl⟩
set_option maxRecDepth 10000 in
theorem wd_714 : ex_W (.fieldLink "StreamTowerModel" 13 "StreamTowerModel" "begins" "[Z") := ⟨List.mem_append_right _ (List.mem_of_getElem? (i := 714) rfl), rfl⟩
set_option maxRecDepth 10000 in
theorem wd_715 : ex_W (.fieldLink "StreamTowerModel" 17 "StreamTowerModel" "broken" "[Z") := ⟨List.mem_append_right _ (List.mem_of_getElem? (i := 715) rfl), rfl⟩
set_option maxRecDepth 10000 in
theorem wd_716 : ex_W (.fieldLink "StreamTowerModel" 69 "StreamTowerModel" "fed" "I") := ⟨List.mem_append_right _ (List.mem_of_getElem? (i := 716) rfl), rfl⟩
set_option maxRecDepth 10000 in
theorem wd_717 : ex_W (.fieldLink "StreamTowerModel" 72 "StreamTowerModel" "taken" "I") := ⟨List.mem_append_right _ (List.mem_of_getElem? (i := 717) rfl), rfl⟩
set_option maxRecDepth 10000 in
theorem wd_718 : ex_W (.fieldLink "StreamTowerModel" 79 "StreamTowerModel" "layers" "I") := ⟨List.mem_append_right _ (List.mem_of_getElem? (i := 718) rfl), rfl⟩
set_option maxRecDepth 10000 in
theorem wd_719 : ex_W (.fieldLink "StreamTowerModel" 20 "StreamTowerModel" "kind" "[I") := ⟨List.mem_append_right _ (List.mem_of_getElem? (i := 719) rfl), rfl⟩
set_option maxRecDepth 10000 in
theorem wd_720 : ex_W (.fieldLink "StreamTowerModel" 23 "StreamTowerModel" "sizes" "[I") := ⟨List.mem_append_right _ (List.mem_of_getElem? (i := 720) rfl), rfl⟩
set_option maxRecDepth 10000 in
theorem wd_721 : ex_W (.fieldLink "StreamTowerModel" 26 "StreamTowerModel" "state" "[I") := ⟨List.mem_append_right _ (List.mem_of_getElem? (i := 721) rfl), rfl⟩
set_option maxRecDepth 10000 in
theorem wd_722 : ex_W (.fieldLink "StreamTowerModel" 29 "StreamTowerModel" "remembered" "[I") := ⟨List.mem_append_right _ (List.mem_of_getElem? (i := 722) rfl), rfl⟩
set_option maxRecDepth 10000 in
theorem wd_723 : ex_W (.fieldLink "StreamTowerModel" 32 "StreamTowerModel" "cr" "[Z") := ⟨List.mem_append_right _ (List.mem_of_getElem? (i := 723) rfl), rfl⟩
set_option maxRecDepth 10000 in
theorem wd_724 : ex_W (.fieldLink "StreamTowerModel" 35 "StreamTowerModel" "crRemembered" "[Z") := ⟨List.mem_append_right _ (List.mem_of_getElem? (i := 724) rfl), rfl⟩
set_option maxRecDepth 10000 in
theorem wd_725 : ex_W (.fieldLink "StreamTowerModel" 38 "StreamTowerModel" "bytes" "[I") := ⟨List.mem_append_right _ (List.mem_of_getElem? (i := 725) rfl), rfl⟩
set_option maxRecDepth 10000 in
theorem wd_726 : ex_W (.fieldLink "StreamTowerModel" 41 "StreamTowerModel" "have" "[I") := ⟨List.mem_append_right _ (List.mem_of_getElem? (i := 726) rfl), rfl⟩
set_option maxRecDepth 10000 in
theorem wd_727 : ex_W (.fieldLink "StreamTowerModel" 44 "StreamTowerModel" "given" "[I") := ⟨List.mem_append_right _ (List.mem_of_getElem? (i := 727) rfl), rfl⟩
set_option maxRecDepth 10000 in
theorem wd_728 : ex_W (.fieldLink "StreamTowerModel" 47 "StreamTowerModel" "marked" "[Z") := ⟨List.mem_append_right _ (List.mem_of_getElem? (i := 728) rfl), rfl⟩
set_option maxRecDepth 10000 in
theorem wd_729 : ex_W (.fieldLink "StreamTowerModel" 50 "StreamTowerModel" "limit" "[I") := ⟨List.mem_append_right _ (List.mem_of_getElem? (i := 729) rfl), rfl⟩
set_option maxRecDepth 10000 in
theorem wd_730 : ex_W (.fieldLink "StreamTowerModel" 53 "StreamTowerModel" "asked" "[I") := ⟨List.mem_append_right _ (List.mem_of_getElem? (i := 730) rfl), rfl⟩
set_option maxRecDepth 10000 in
theorem wd_731 : ex_W (.fieldLink "StreamTowerModel" 56 "StreamTowerModel" "answer" "[I") := ⟨List.mem_append_right _ (List.mem_of_getElem? (i := 731) rfl), rfl⟩
set_option maxRecDepth 10000 in
theorem wd_732 : ex_W (.fieldLink "StreamTowerModel" 86 "StreamTowerModel" "count" "I") := ⟨List.mem_append_right _ (List.mem_of_getElem? (i := 732) rfl), rfl⟩
set_option maxRecDepth 10000 in
theorem wd_733 : ex_W (.fieldLink "StreamTowerModel" 75 "StreamTowerModel" "closed" "Z") := ⟨List.mem_append_right _ (List.mem_of_getElem? (i := 733) rfl), rfl⟩
set_option maxRecDepth 10000 in
theorem wd_734 : ex_W (.fieldLink "StreamTowerModel" 120 "StreamTowerModel" "leaves" "Z") := ⟨List.mem_append_right _ (List.mem_of_getElem? (i := 734) rfl), rfl⟩
set_option maxRecDepth 10000 in
theorem wd_735 : ex_W (.fieldLink "StreamTowerModel" 151 "StreamTowerModel" "leavesMarked" "Z") := ⟨List.mem_append_right _ (List.mem_of_getElem? (i := 735) rfl), rfl⟩
set_option maxRecDepth 10000 in
theorem wd_736 : ex_W (.fieldLink "StreamTowerModel" 59 "StreamTowerModel" "bag" "[I") := ⟨List.mem_append_right _ (List.mem_of_getElem? (i := 736) rfl), rfl⟩
set_option maxRecDepth 10000 in
theorem wd_737 : ex_W (.fieldLink "StreamTowerModel" 123 "StreamTowerModel" "bagged" "I") := ⟨List.mem_append_right _ (List.mem_of_getElem? (i := 737) rfl), rfl⟩
set_option maxRecDepth 10000 in
theorem wd_738 : ex_W (.fieldLink "StreamTowerModel" 62 "StreamTowerModel" "letters" "[I") := ⟨List.mem_append_right _ (List.mem_of_getElem? (i := 738) rfl), rfl⟩
set_option maxRecDepth 10000 in
theorem wd_739 : ex_W (.fieldLink "StreamTowerModel" 141 "StreamTowerModel" "lettered" "I") := ⟨List.mem_append_right _ (List.mem_of_getElem? (i := 739) rfl), rfl⟩
set_option maxRecDepth 10000 in
theorem wd_740 : ex_W (.lays "StreamTowerModel" "StreamTowerModel" "code" "I") := ⟨List.mem_append_right _ (List.mem_of_getElem? (i := 740) rfl), rfl⟩
set_option maxRecDepth 10000 in
theorem wd_741 : ex_W (.soleField "StreamTowerModel" "code") := ⟨List.mem_append_right _ (List.mem_of_getElem? (i := 741) rfl), rfl⟩
set_option maxRecDepth 10000 in
theorem wd_742 : ex_W (.laysFinal "StreamTowerModel" "StreamTowerModel" "source" "[I") := ⟨List.mem_append_right _ (List.mem_of_getElem? (i := 742) rfl), rfl⟩
set_option maxRecDepth 10000 in
theorem wd_743 : ex_W (.soleField "StreamTowerModel" "source") := ⟨List.mem_append_right _ (List.mem_of_getElem? (i := 743) rfl), rfl⟩
set_option maxRecDepth 10000 in
theorem wd_744 : ex_W (.laysFinal "StreamTowerModel" "StreamTowerModel" "begins" "[Z") := ⟨List.mem_append_right _ (List.mem_of_getElem? (i := 744) rfl), rfl⟩
set_option maxRecDepth 10000 in
theorem wd_745 : ex_W (.soleField "StreamTowerModel" "begins") := ⟨List.mem_append_right _ (List.mem_of_getElem? (i := 745) rfl), rfl⟩
set_option maxRecDepth 10000 in
theorem wd_746 : ex_W (.laysFinal "StreamTowerModel" "StreamTowerModel" "broken" "[Z") := ⟨List.mem_append_right _ (List.mem_of_getElem? (i := 746) rfl), rfl⟩
set_option maxRecDepth 10000 in
theorem wd_747 : ex_W (.soleField "StreamTowerModel" "broken") := ⟨List.mem_append_right _ (List.mem_of_getElem? (i := 747) rfl), rfl⟩
set_option maxRecDepth 10000 in
theorem wd_748 : ex_W (.lays "StreamTowerModel" "StreamTowerModel" "fed" "I") := ⟨List.mem_append_right _ (List.mem_of_getElem? (i := 748) rfl), rfl⟩
set_option maxRecDepth 10000 in
theorem wd_749 : ex_W (.soleField "StreamTowerModel" "fed") := ⟨List.mem_append_right _ (List.mem_of_getElem? (i := 749) rfl), rfl⟩
set_option maxRecDepth 10000 in
theorem wd_750 : ex_W (.lays "StreamTowerModel" "StreamTowerModel" "taken" "I") := ⟨List.mem_append_right _ (List.mem_of_getElem? (i := 750) rfl), rfl⟩
set_option maxRecDepth 10000 in
theorem wd_751 : ex_W (.soleField "StreamTowerModel" "taken") := ⟨List.mem_append_right _ (List.mem_of_getElem? (i := 751) rfl), rfl⟩
set_option maxRecDepth 10000 in
theorem wd_752 : ex_W (.lays "StreamTowerModel" "StreamTowerModel" "layers" "I") := ⟨List.mem_append_right _ (List.mem_of_getElem? (i := 752) rfl), rfl⟩
set_option maxRecDepth 10000 in
theorem wd_753 : ex_W (.soleField "StreamTowerModel" "layers") := ⟨List.mem_append_right _ (List.mem_of_getElem? (i := 753) rfl), rfl⟩
set_option maxRecDepth 10000 in
theorem wd_754 : ex_W (.laysFinal "StreamTowerModel" "StreamTowerModel" "kind" "[I") := ⟨List.mem_append_right _ (List.mem_of_getElem? (i := 754) rfl), rfl⟩
set_option maxRecDepth 10000 in
theorem wd_755 : ex_W (.soleField "StreamTowerModel" "kind") := ⟨List.mem_append_right _ (List.mem_of_getElem? (i := 755) rfl), rfl⟩
set_option maxRecDepth 10000 in
theorem wd_756 : ex_W (.laysFinal "StreamTowerModel" "StreamTowerModel" "sizes" "[I") := ⟨List.mem_append_right _ (List.mem_of_getElem? (i := 756) rfl), rfl⟩
set_option maxRecDepth 10000 in
theorem wd_757 : ex_W (.soleField "StreamTowerModel" "sizes") := ⟨List.mem_append_right _ (List.mem_of_getElem? (i := 757) rfl), rfl⟩
set_option maxRecDepth 10000 in
theorem wd_758 : ex_W (.laysFinal "StreamTowerModel" "StreamTowerModel" "state" "[I") := ⟨List.mem_append_right _ (List.mem_of_getElem? (i := 758) rfl), rfl⟩
set_option maxRecDepth 10000 in
theorem wd_759 : ex_W (.soleField "StreamTowerModel" "state") := ⟨List.mem_append_right _ (List.mem_of_getElem? (i := 759) rfl), rfl⟩
set_option maxRecDepth 10000 in
theorem wd_760 : ex_W (.laysFinal "StreamTowerModel" "StreamTowerModel" "remembered" "[I") := ⟨List.mem_append_right _ (List.mem_of_getElem? (i := 760) rfl), rfl⟩
set_option maxRecDepth 10000 in
theorem wd_761 : ex_W (.soleField "StreamTowerModel" "remembered") := ⟨List.mem_append_right _ (List.mem_of_getElem? (i := 761) rfl), rfl⟩
set_option maxRecDepth 10000 in
theorem wd_762 : ex_W (.laysFinal "StreamTowerModel" "StreamTowerModel" "cr" "[Z") := ⟨List.mem_append_right _ (List.mem_of_getElem? (i := 762) rfl), rfl⟩
set_option maxRecDepth 10000 in
theorem wd_763 : ex_W (.soleField "StreamTowerModel" "cr") := ⟨List.mem_append_right _ (List.mem_of_getElem? (i := 763) rfl), rfl⟩
set_option maxRecDepth 10000 in
theorem wd_764 : ex_W (.laysFinal "StreamTowerModel" "StreamTowerModel" "crRemembered" "[Z") := ⟨List.mem_append_right _ (List.mem_of_getElem? (i := 764) rfl), rfl⟩
set_option maxRecDepth 10000 in
theorem wd_765 : ex_W (.soleField "StreamTowerModel" "crRemembered") := ⟨List.mem_append_right _ (List.mem_of_getElem? (i := 765) rfl), rfl⟩
set_option maxRecDepth 10000 in
theorem wd_766 : ex_W (.laysFinal "StreamTowerModel" "StreamTowerModel" "bytes" "[I") := ⟨List.mem_append_right _ (List.mem_of_getElem? (i := 766) rfl), rfl⟩
set_option maxRecDepth 10000 in
theorem wd_767 : ex_W (.soleField "StreamTowerModel" "bytes") := ⟨List.mem_append_right _ (List.mem_of_getElem? (i := 767) rfl), rfl⟩
set_option maxRecDepth 10000 in
theorem wd_768 : ex_W (.laysFinal "StreamTowerModel" "StreamTowerModel" "have" "[I") := ⟨List.mem_append_right _ (List.mem_of_getElem? (i := 768) rfl), rfl⟩
set_option maxRecDepth 10000 in
theorem wd_769 : ex_W (.soleField "StreamTowerModel" "have") := ⟨List.mem_append_right _ (List.mem_of_getElem? (i := 769) rfl), rfl⟩
set_option maxRecDepth 10000 in
theorem wd_770 : ex_W (.laysFinal "StreamTowerModel" "StreamTowerModel" "given" "[I") := ⟨List.mem_append_right _ (List.mem_of_getElem? (i := 770) rfl), rfl⟩
set_option maxRecDepth 10000 in
theorem wd_771 : ex_W (.soleField "StreamTowerModel" "given") := ⟨List.mem_append_right _ (List.mem_of_getElem? (i := 771) rfl), rfl⟩
set_option maxRecDepth 10000 in
theorem wd_772 : ex_W (.laysFinal "StreamTowerModel" "StreamTowerModel" "marked" "[Z") := ⟨List.mem_append_right _ (List.mem_of_getElem? (i := 772) rfl), rfl⟩
set_option maxRecDepth 10000 in
theorem wd_773 : ex_W (.soleField "StreamTowerModel" "marked") := ⟨List.mem_append_right _ (List.mem_of_getElem? (i := 773) rfl), rfl⟩
set_option maxRecDepth 10000 in
theorem wd_774 : ex_W (.laysFinal "StreamTowerModel" "StreamTowerModel" "limit" "[I") := ⟨List.mem_append_right _ (List.mem_of_getElem? (i := 774) rfl), rfl⟩
set_option maxRecDepth 10000 in
theorem wd_775 : ex_W (.soleField "StreamTowerModel" "limit") := ⟨List.mem_append_right _ (List.mem_of_getElem? (i := 775) rfl), rfl⟩
set_option maxRecDepth 10000 in
theorem wd_776 : ex_W (.laysFinal "StreamTowerModel" "StreamTowerModel" "asked" "[I") := ⟨List.mem_append_right _ (List.mem_of_getElem? (i := 776) rfl), rfl⟩
set_option maxRecDepth 10000 in
theorem wd_777 : ex_W (.soleField "StreamTowerModel" "asked") := ⟨List.mem_append_right _ (List.mem_of_getElem? (i := 777) rfl), rfl⟩
set_option maxRecDepth 10000 in
theorem wd_778 : ex_W (.laysFinal "StreamTowerModel" "StreamTowerModel" "answer" "[I") := ⟨List.mem_append_right _ (List.mem_of_getElem? (i := 778) rfl), rfl⟩
set_option maxRecDepth 10000 in
theorem wd_779 : ex_W (.soleField "StreamTowerModel" "answer") := ⟨List.mem_append_right _ (List.mem_of_getElem? (i := 779) rfl), rfl⟩
set_option maxRecDepth 10000 in
theorem wd_780 : ex_W (.lays "StreamTowerModel" "StreamTowerModel" "count" "I") := ⟨List.mem_append_right _ (List.mem_of_getElem? (i := 780) rfl), rfl⟩
set_option maxRecDepth 10000 in
theorem wd_781 : ex_W (.soleField "StreamTowerModel" "count") := ⟨List.mem_append_right _ (List.mem_of_getElem? (i := 781) rfl), rfl⟩
set_option maxRecDepth 10000 in
theorem wd_782 : ex_W (.lays "StreamTowerModel" "StreamTowerModel" "closed" "Z") := ⟨List.mem_append_right _ (List.mem_of_getElem? (i := 782) rfl), rfl⟩
set_option maxRecDepth 10000 in
theorem wd_783 : ex_W (.soleField "StreamTowerModel" "closed") := ⟨List.mem_append_right _ (List.mem_of_getElem? (i := 783) rfl), rfl⟩
set_option maxRecDepth 10000 in
theorem wd_784 : ex_W (.lays "StreamTowerModel" "StreamTowerModel" "leaves" "Z") := ⟨List.mem_append_right _ (List.mem_of_getElem? (i := 784) rfl), rfl⟩
set_option maxRecDepth 10000 in
theorem wd_785 : ex_W (.soleField "StreamTowerModel" "leaves") := ⟨List.mem_append_right _ (List.mem_of_getElem? (i := 785) rfl), rfl⟩
set_option maxRecDepth 10000 in
theorem wd_786 : ex_W (.lays "StreamTowerModel" "StreamTowerModel" "leavesMarked" "Z") := ⟨List.mem_append_right _ (List.mem_of_getElem? (i := 786) rfl), rfl⟩
set_option maxRecDepth 10000 in
theorem wd_787 : ex_W (.soleField "StreamTowerModel" "leavesMarked") := ⟨List.mem_append_right _ (List.mem_of_getElem? (i := 787) rfl), rfl⟩
set_option maxRecDepth 10000 in
theorem wd_788 : ex_W (.laysFinal "StreamTowerModel" "StreamTowerModel" "bag" "[I") := ⟨List.mem_append_right _ (List.mem_of_getElem? (i := 788) rfl), rfl⟩
set_option maxRecDepth 10000 in
theorem wd_789 : ex_W (.soleField "StreamTowerModel" "bag") := ⟨List.mem_append_right _ (List.mem_of_getElem? (i := 789) rfl), rfl⟩
set_option maxRecDepth 10000 in
theorem wd_790 : ex_W (.lays "StreamTowerModel" "StreamTowerModel" "bagged" "I") := ⟨List.mem_append_right _ (List.mem_of_getElem? (i := 790) rfl), rfl⟩
set_option maxRecDepth 10000 in
theorem wd_791 : ex_W (.soleField "StreamTowerModel" "bagged") := ⟨List.mem_append_right _ (List.mem_of_getElem? (i := 791) rfl), rfl⟩
set_option maxRecDepth 10000 in
theorem wd_792 : ex_W (.laysFinal "StreamTowerModel" "StreamTowerModel" "letters" "[I") := ⟨List.mem_append_right _ (List.mem_of_getElem? (i := 792) rfl), rfl⟩
set_option maxRecDepth 10000 in
theorem wd_793 : ex_W (.soleField "StreamTowerModel" "letters") := ⟨List.mem_append_right _ (List.mem_of_getElem? (i := 793) rfl), rfl⟩
set_option maxRecDepth 10000 in
theorem wd_794 : ex_W (.lays "StreamTowerModel" "StreamTowerModel" "lettered" "I") := ⟨List.mem_append_right _ (List.mem_of_getElem? (i := 794) rfl), rfl⟩
set_option maxRecDepth 10000 in
theorem wd_795 : ex_W (.soleField "StreamTowerModel" "lettered") := ⟨List.mem_append_right _ (List.mem_of_getElem? (i := 795) rfl), rfl⟩
set_option maxRecDepth 10000 in
theorem wd_796 : ex_W (.superclass "StreamTowerModel" "java/lang/Object") := ⟨List.mem_append_right _ (List.mem_of_getElem? (i := 796) rfl), rfl⟩
set_option maxRecDepth 10000 in
theorem wd_797 : ex_W (.methodLink "StreamTowerLaw" 68 ⟨"StreamTowerModel", "thrown", "()I"⟩) := ⟨List.mem_append_right _ (List.mem_of_getElem? (i := 797) rfl), rfl⟩
set_option maxRecDepth 10000 in
theorem wd_798 : ex_W (.instanceMethod ⟨"StreamTowerModel", "thrown", "()I"⟩) := ⟨List.mem_append_right _ (List.mem_of_getElem? (i := 798) rfl), rfl⟩
set_option maxRecDepth 10000 in
theorem wd_799 : ex_W (.selects "StreamTowerModel" ⟨"StreamTowerModel", "thrown", "()I"⟩ ⟨"StreamTowerModel", "thrown", "()I"⟩) := ⟨List.mem_append_right _ (List.mem_of_getElem? (i := 799) rfl), rfl⟩
set_option maxRecDepth 10000 in
theorem wd_800 : ex_W (.code ⟨"StreamTowerModel", "thrown", "()I"⟩ prog_12_method_2_code 1 (some FieldType.int)) := ⟨List.mem_append_right _ (List.mem_of_getElem? (i := 800) rfl), rfl⟩
set_option maxRecDepth 10000 in
theorem wd_801 : ex_W (.methodLink "StreamTowerLaw" 67 ⟨"StreamTowerModel", "feed", "(II)I"⟩) := ⟨List.mem_append_right _ (List.mem_of_getElem? (i := 801) rfl), rfl⟩
set_option maxRecDepth 10000 in
theorem wd_802 : ex_W (.instanceMethod ⟨"StreamTowerModel", "feed", "(II)I"⟩) := ⟨List.mem_append_right _ (List.mem_of_getElem? (i := 802) rfl), rfl⟩
set_option maxRecDepth 10000 in
theorem wd_803 : ex_W (.selects "StreamTowerModel" ⟨"StreamTowerModel", "feed", "(II)I"⟩ ⟨"StreamTowerModel", "feed", "(II)I"⟩) := ⟨List.mem_append_right _ (List.mem_of_getElem? (i := 803) rfl), rfl⟩
set_option maxRecDepth 10000 in
theorem wd_804 : ex_W (.code ⟨"StreamTowerModel", "feed", "(II)I"⟩ prog_12_method_3_code 4 (some FieldType.int)) := ⟨List.mem_append_right _ (List.mem_of_getElem? (i := 804) rfl), rfl⟩
set_option maxRecDepth 10000 in
theorem wd_805 : ex_W (.methodLink "StreamTowerLaw" 74 ⟨"StreamTowerModel", "portion", "()V"⟩) := ⟨List.mem_append_right _ (List.mem_of_getElem? (i := 805) rfl), rfl⟩
set_option maxRecDepth 10000 in
theorem wd_806 : ex_W (.instanceMethod ⟨"StreamTowerModel", "portion", "()V"⟩) := ⟨List.mem_append_right _ (List.mem_of_getElem? (i := 806) rfl), rfl⟩
set_option maxRecDepth 10000 in
theorem wd_807 : ex_W (.selects "StreamTowerModel" ⟨"StreamTowerModel", "portion", "()V"⟩ ⟨"StreamTowerModel", "portion", "()V"⟩) := ⟨List.mem_append_right _ (List.mem_of_getElem? (i := 807) rfl), rfl⟩
set_option maxRecDepth 10000 in
theorem wd_808 : ex_W (.code ⟨"StreamTowerModel", "portion", "()V"⟩ prog_12_method_4_code 1 none) := ⟨List.mem_append_right _ (List.mem_of_getElem? (i := 808) rfl), rfl⟩
set_option maxRecDepth 10000 in
theorem wd_809 : ex_W (.methodLink "StreamTowerLaw" 79 ⟨"StreamTowerModel", "breakAt", "(I)Z"⟩) := ⟨List.mem_append_right _ (List.mem_of_getElem? (i := 809) rfl), rfl⟩
set_option maxRecDepth 10000 in
theorem wd_810 : ex_W (.instanceMethod ⟨"StreamTowerModel", "breakAt", "(I)Z"⟩) := ⟨List.mem_append_right _ (List.mem_of_getElem? (i := 810) rfl), rfl⟩
set_option maxRecDepth 10000 in
theorem wd_811 : ex_W (.selects "StreamTowerModel" ⟨"StreamTowerModel", "breakAt", "(I)Z"⟩ ⟨"StreamTowerModel", "breakAt", "(I)Z"⟩) := ⟨List.mem_append_right _ (List.mem_of_getElem? (i := 811) rfl), rfl⟩
set_option maxRecDepth 10000 in
theorem wd_812 : ex_W (.code ⟨"StreamTowerModel", "breakAt", "(I)Z"⟩ prog_12_method_5_code 3 (some FieldType.boolean)) := ⟨List.mem_append_right _ (List.mem_of_getElem? (i := 812) rfl), rfl⟩
set_option maxRecDepth 10000 in
theorem wd_813 : ex_W (.methodLink "StreamTowerLaw" 82 ⟨"StreamTowerModel", "push", "(II)I"⟩) := ⟨List.mem_append_right _ (List.mem_of_getElem? (i := 813) rfl), rfl⟩
set_option maxRecDepth 10000 in
theorem wd_814 : ex_W (.instanceMethod ⟨"StreamTowerModel", "push", "(II)I"⟩) := ⟨List.mem_append_right _ (List.mem_of_getElem? (i := 814) rfl), rfl⟩
set_option maxRecDepth 10000 in
theorem wd_815 : ex_W (.selects "StreamTowerModel" ⟨"StreamTowerModel", "push", "(II)I"⟩ ⟨"StreamTowerModel", "push", "(II)I"⟩) := ⟨List.mem_append_right _ (List.mem_of_getElem? (i := 815) rfl), rfl⟩
set_option maxRecDepth 10000 in
theorem wd_816 : ex_W (.code ⟨"StreamTowerModel", "push", "(II)I"⟩ prog_12_method_7_code 7 (some FieldType.int)) := ⟨List.mem_append_right _ (List.mem_of_getElem? (i := 816) rfl), rfl⟩
set_option maxRecDepth 10000 in
theorem wd_817 : ex_W (.methodLink "StreamTowerLaw" 86 ⟨"StreamTowerModel", "read", "()I"⟩) := ⟨List.mem_append_right _ (List.mem_of_getElem? (i := 817) rfl), rfl⟩
set_option maxRecDepth 10000 in
theorem wd_818 : ex_W (.instanceMethod ⟨"StreamTowerModel", "read", "()I"⟩) := ⟨List.mem_append_right _ (List.mem_of_getElem? (i := 818) rfl), rfl⟩
set_option maxRecDepth 10000 in
theorem wd_819 : ex_W (.selects "StreamTowerModel" ⟨"StreamTowerModel", "read", "()I"⟩ ⟨"StreamTowerModel", "read", "()I"⟩) := ⟨List.mem_append_right _ (List.mem_of_getElem? (i := 819) rfl), rfl⟩
set_option maxRecDepth 10000 in
theorem wd_820 : ex_W (.code ⟨"StreamTowerModel", "read", "()I"⟩ prog_12_method_19_code 1 (some FieldType.int)) := ⟨List.mem_append_right _ (List.mem_of_getElem? (i := 820) rfl), rfl⟩
set_option maxRecDepth 10000 in
theorem wd_821 : ex_W (.methodLink "StreamTowerModel" 126 ⟨"StreamTowerModel", "reads", "(I)Z"⟩) := ⟨List.mem_append_right _ (List.mem_of_getElem? (i := 821) rfl), rfl⟩
set_option maxRecDepth 10000 in
theorem wd_823 : ex_W (.instanceMethod ⟨"StreamTowerModel", "reads", "(I)Z"⟩) := ⟨List.mem_append_right _ (List.mem_of_getElem? (i := 823) rfl), rfl⟩
set_option maxRecDepth 10000 in
theorem wd_824 : ex_W (.code ⟨"StreamTowerModel", "reads", "(I)Z"⟩ prog_12_method_17_code 3 (some FieldType.boolean)) := ⟨List.mem_append_right _ (List.mem_of_getElem? (i := 824) rfl), rfl⟩
set_option maxRecDepth 10000 in
theorem wd_825 : ex_W (.methodLink "StreamTowerModel" 117 ⟨"StreamTowerModel", "request", "(I)Z"⟩) := ⟨List.mem_append_right _ (List.mem_of_getElem? (i := 825) rfl), rfl⟩
set_option maxRecDepth 10000 in
theorem wd_827 : ex_W (.instanceMethod ⟨"StreamTowerModel", "request", "(I)Z"⟩) := ⟨List.mem_append_right _ (List.mem_of_getElem? (i := 827) rfl), rfl⟩
set_option maxRecDepth 10000 in
theorem wd_828 : ex_W (.code ⟨"StreamTowerModel", "request", "(I)Z"⟩ prog_12_method_16_code 7 (some FieldType.boolean)) := ⟨List.mem_append_right _ (List.mem_of_getElem? (i := 828) rfl), rfl⟩
set_option maxRecDepth 10000 in
theorem wd_829 : ex_W (.methodLink "StreamTowerModel" 104 ⟨"StreamTowerModel", "answers", "(I)Z"⟩) := ⟨List.mem_append_right _ (List.mem_of_getElem? (i := 829) rfl), rfl⟩
set_option maxRecDepth 10000 in
theorem wd_831 : ex_W (.instanceMethod ⟨"StreamTowerModel", "answers", "(I)Z"⟩) := ⟨List.mem_append_right _ (List.mem_of_getElem? (i := 831) rfl), rfl⟩
set_option maxRecDepth 10000 in
theorem wd_832 : ex_W (.code ⟨"StreamTowerModel", "answers", "(I)Z"⟩ prog_12_method_11_code 3 (some FieldType.boolean)) := ⟨List.mem_append_right _ (List.mem_of_getElem? (i := 832) rfl), rfl⟩
set_option maxRecDepth 10000 in
theorem wd_833 : ex_W (.methodLink "StreamTowerModel" 82 ⟨"StreamTowerModel", "toGive", "(I)I"⟩) := ⟨List.mem_append_right _ (List.mem_of_getElem? (i := 833) rfl), rfl⟩
set_option maxRecDepth 10000 in
theorem wd_835 : ex_W (.instanceMethod ⟨"StreamTowerModel", "toGive", "(I)I"⟩) := ⟨List.mem_append_right _ (List.mem_of_getElem? (i := 835) rfl), rfl⟩
set_option maxRecDepth 10000 in
theorem wd_836 : ex_W (.code ⟨"StreamTowerModel", "toGive", "(I)I"⟩ prog_12_method_8_code 2 (some FieldType.int)) := ⟨List.mem_append_right _ (List.mem_of_getElem? (i := 836) rfl), rfl⟩
set_option maxRecDepth 10000 in
theorem wd_837 : ex_W (.methodLink "StreamTowerModel" 93 ⟨"StreamTowerModel", "give", "(II)V"⟩) := ⟨List.mem_append_right _ (List.mem_of_getElem? (i := 837) rfl), rfl⟩
set_option maxRecDepth 10000 in
theorem wd_839 : ex_W (.instanceMethod ⟨"StreamTowerModel", "give", "(II)V"⟩) := ⟨List.mem_append_right _ (List.mem_of_getElem? (i := 839) rfl), rfl⟩
set_option maxRecDepth 10000 in
theorem wd_840 : ex_W (.code ⟨"StreamTowerModel", "give", "(II)V"⟩ prog_12_method_10_code 4 none) := ⟨List.mem_append_right _ (List.mem_of_getElem? (i := 840) rfl), rfl⟩
set_option maxRecDepth 10000 in
theorem wd_841 : ex_W (.methodLink "StreamTowerModel" 89 ⟨"StreamTowerModel", "forget", "(II)V"⟩) := ⟨List.mem_append_right _ (List.mem_of_getElem? (i := 841) rfl), rfl⟩
set_option maxRecDepth 10000 in
theorem wd_843 : ex_W (.instanceMethod ⟨"StreamTowerModel", "forget", "(II)V"⟩) := ⟨List.mem_append_right _ (List.mem_of_getElem? (i := 843) rfl), rfl⟩
set_option maxRecDepth 10000 in
theorem wd_844 : ex_W (.code ⟨"StreamTowerModel", "forget", "(II)V"⟩ prog_12_method_9_code 4 none) := ⟨List.mem_append_right _ (List.mem_of_getElem? (i := 844) rfl), rfl⟩
set_option maxRecDepth 10000 in
theorem wd_845 : ex_W (.methodLink "StreamTowerModel" 107 ⟨"StreamTowerModel", "below", "(I)I"⟩) := ⟨List.mem_append_right _ (List.mem_of_getElem? (i := 845) rfl), rfl⟩
set_option maxRecDepth 10000 in
theorem wd_847 : ex_W (.instanceMethod ⟨"StreamTowerModel", "below", "(I)I"⟩) := ⟨List.mem_append_right _ (List.mem_of_getElem? (i := 847) rfl), rfl⟩
set_option maxRecDepth 10000 in
theorem wd_848 : ex_W (.code ⟨"StreamTowerModel", "below", "(I)I"⟩ prog_12_method_13_code 3 (some FieldType.int)) := ⟨List.mem_append_right _ (List.mem_of_getElem? (i := 848) rfl), rfl⟩
set_option maxRecDepth 10000 in
theorem wd_849 : ex_W (.methodLink "StreamTowerModel" 96 ⟨"StreamTowerModel", "through", "(I)Z"⟩) := ⟨List.mem_append_right _ (List.mem_of_getElem? (i := 849) rfl), rfl⟩
set_option maxRecDepth 10000 in
theorem wd_851 : ex_W (.instanceMethod ⟨"StreamTowerModel", "through", "(I)Z"⟩) := ⟨List.mem_append_right _ (List.mem_of_getElem? (i := 851) rfl), rfl⟩
set_option maxRecDepth 10000 in
theorem wd_852 : ex_W (.code ⟨"StreamTowerModel", "through", "(I)Z"⟩ prog_12_method_12_code 2 (some FieldType.boolean)) := ⟨List.mem_append_right _ (List.mem_of_getElem? (i := 852) rfl), rfl⟩
set_option maxRecDepth 10000 in
theorem wd_853 : ex_W (.methodLink "StreamTowerModel" 110 ⟨"StreamTowerModel", "portionLeft", "()I"⟩) := ⟨List.mem_append_right _ (List.mem_of_getElem? (i := 853) rfl), rfl⟩
set_option maxRecDepth 10000 in
theorem wd_855 : ex_W (.instanceMethod ⟨"StreamTowerModel", "portionLeft", "()I"⟩) := ⟨List.mem_append_right _ (List.mem_of_getElem? (i := 855) rfl), rfl⟩
set_option maxRecDepth 10000 in
theorem wd_856 : ex_W (.code ⟨"StreamTowerModel", "portionLeft", "()I"⟩ prog_12_method_6_code 2 (some FieldType.int)) := ⟨List.mem_append_right _ (List.mem_of_getElem? (i := 856) rfl), rfl⟩
set_option maxRecDepth 10000 in
theorem wd_857 : ex_W (.methodLink "StreamTowerModel" 114 ⟨"StreamTowerModel", "pass", "(I)V"⟩) := ⟨List.mem_append_right _ (List.mem_of_getElem? (i := 857) rfl), rfl⟩
set_option maxRecDepth 10000 in
theorem wd_859 : ex_W (.instanceMethod ⟨"StreamTowerModel", "pass", "(I)V"⟩) := ⟨List.mem_append_right _ (List.mem_of_getElem? (i := 859) rfl), rfl⟩
set_option maxRecDepth 10000 in
theorem wd_860 : ex_W (.code ⟨"StreamTowerModel", "pass", "(I)V"⟩ prog_12_method_15_code 3 none) := ⟨List.mem_append_right _ (List.mem_of_getElem? (i := 860) rfl), rfl⟩
set_option maxRecDepth 10000 in
theorem wd_861 : ex_W (.methodLink "StreamTowerModel" 100 ⟨"StreamTowerModel", "countLines", "(I)V"⟩) := ⟨List.mem_append_right _ (List.mem_of_getElem? (i := 861) rfl), rfl⟩
set_option maxRecDepth 10000 in
theorem wd_863 : ex_W (.instanceMethod ⟨"StreamTowerModel", "countLines", "(I)V"⟩) := ⟨List.mem_append_right _ (List.mem_of_getElem? (i := 863) rfl), rfl⟩
set_option maxRecDepth 10000 in
theorem wd_864 : ex_W (.code ⟨"StreamTowerModel", "countLines", "(I)V"⟩ prog_12_method_14_code 4 none) := ⟨List.mem_append_right _ (List.mem_of_getElem? (i := 864) rfl), rfl⟩
set_option maxRecDepth 10000 in
theorem wd_865 : ex_W (.methodLink "StreamTowerModel" 129 ⟨"StreamTowerModel", "putBag", "()V"⟩) := ⟨List.mem_append_right _ (List.mem_of_getElem? (i := 865) rfl), rfl⟩
set_option maxRecDepth 10000 in
theorem wd_867 : ex_W (.instanceMethod ⟨"StreamTowerModel", "putBag", "()V"⟩) := ⟨List.mem_append_right _ (List.mem_of_getElem? (i := 867) rfl), rfl⟩
set_option maxRecDepth 10000 in
theorem wd_868 : ex_W (.code ⟨"StreamTowerModel", "putBag", "()V"⟩ prog_12_method_18_code 2 none) := ⟨List.mem_append_right _ (List.mem_of_getElem? (i := 868) rfl), rfl⟩
set_option maxRecDepth 10000 in
theorem wd_869 : ex_W (.methodLink "StreamTowerLaw" 90 ⟨"StreamTowerModel", "some", "(I)I"⟩) := ⟨List.mem_append_right _ (List.mem_of_getElem? (i := 869) rfl), rfl⟩
set_option maxRecDepth 10000 in
theorem wd_870 : ex_W (.instanceMethod ⟨"StreamTowerModel", "some", "(I)I"⟩) := ⟨List.mem_append_right _ (List.mem_of_getElem? (i := 870) rfl), rfl⟩
set_option maxRecDepth 10000 in
theorem wd_871 : ex_W (.selects "StreamTowerModel" ⟨"StreamTowerModel", "some", "(I)I"⟩ ⟨"StreamTowerModel", "some", "(I)I"⟩) := ⟨List.mem_append_right _ (List.mem_of_getElem? (i := 871) rfl), rfl⟩
set_option maxRecDepth 10000 in
theorem wd_872 : ex_W (.code ⟨"StreamTowerModel", "some", "(I)I"⟩ prog_12_method_20_code 2 (some FieldType.int)) := ⟨List.mem_append_right _ (List.mem_of_getElem? (i := 872) rfl), rfl⟩
set_option maxRecDepth 10000 in
theorem wd_873 : ex_W (.methodLink "StreamTowerLaw" 94 ⟨"StreamTowerModel", "full", "(I)V"⟩) := ⟨List.mem_append_right _ (List.mem_of_getElem? (i := 873) rfl), rfl⟩
set_option maxRecDepth 10000 in
theorem wd_874 : ex_W (.instanceMethod ⟨"StreamTowerModel", "full", "(I)V"⟩) := ⟨List.mem_append_right _ (List.mem_of_getElem? (i := 874) rfl), rfl⟩
set_option maxRecDepth 10000 in
theorem wd_875 : ex_W (.selects "StreamTowerModel" ⟨"StreamTowerModel", "full", "(I)V"⟩ ⟨"StreamTowerModel", "full", "(I)V"⟩) := ⟨List.mem_append_right _ (List.mem_of_getElem? (i := 875) rfl), rfl⟩
set_option maxRecDepth 10000 in
theorem wd_876 : ex_W (.code ⟨"StreamTowerModel", "full", "(I)V"⟩ prog_12_method_22_code 3 none) := ⟨List.mem_append_right _ (List.mem_of_getElem? (i := 876) rfl), rfl⟩
set_option maxRecDepth 10000 in
theorem wd_877 : ex_W (.methodLink "StreamTowerModel" 132 ⟨"StreamTowerModel", "fill", "(I)I"⟩) := ⟨List.mem_append_right _ (List.mem_of_getElem? (i := 877) rfl), rfl⟩
set_option maxRecDepth 10000 in
theorem wd_879 : ex_W (.instanceMethod ⟨"StreamTowerModel", "fill", "(I)I"⟩) := ⟨List.mem_append_right _ (List.mem_of_getElem? (i := 879) rfl), rfl⟩
set_option maxRecDepth 10000 in
theorem wd_880 : ex_W (.code ⟨"StreamTowerModel", "fill", "(I)I"⟩ prog_12_method_21_code 3 (some FieldType.int)) := ⟨List.mem_append_right _ (List.mem_of_getElem? (i := 880) rfl), rfl⟩
set_option maxRecDepth 10000 in
theorem wd_881 : ex_W (.methodLink "StreamTowerLaw" 97 ⟨"StreamTowerModel", "skip", "(I)I"⟩) := ⟨List.mem_append_right _ (List.mem_of_getElem? (i := 881) rfl), rfl⟩
set_option maxRecDepth 10000 in
theorem wd_882 : ex_W (.instanceMethod ⟨"StreamTowerModel", "skip", "(I)I"⟩) := ⟨List.mem_append_right _ (List.mem_of_getElem? (i := 882) rfl), rfl⟩
set_option maxRecDepth 10000 in
theorem wd_883 : ex_W (.selects "StreamTowerModel" ⟨"StreamTowerModel", "skip", "(I)I"⟩ ⟨"StreamTowerModel", "skip", "(I)I"⟩) := ⟨List.mem_append_right _ (List.mem_of_getElem? (i := 883) rfl), rfl⟩
set_option maxRecDepth 10000 in
theorem wd_884 : ex_W (.code ⟨"StreamTowerModel", "skip", "(I)I"⟩ prog_12_method_23_code 4 (some FieldType.int)) := ⟨List.mem_append_right _ (List.mem_of_getElem? (i := 884) rfl), rfl⟩
set_option maxRecDepth 10000 in
theorem wd_885 : ex_W (.methodLink "StreamTowerLaw" 100 ⟨"StreamTowerModel", "number", "(I)J"⟩) := ⟨List.mem_append_right _ (List.mem_of_getElem? (i := 885) rfl), rfl⟩
set_option maxRecDepth 10000 in
theorem wd_886 : ex_W (.instanceMethod ⟨"StreamTowerModel", "number", "(I)J"⟩) := ⟨List.mem_append_right _ (List.mem_of_getElem? (i := 886) rfl), rfl⟩
set_option maxRecDepth 10000 in
theorem wd_887 : ex_W (.selects "StreamTowerModel" ⟨"StreamTowerModel", "number", "(I)J"⟩ ⟨"StreamTowerModel", "number", "(I)J"⟩) := ⟨List.mem_append_right _ (List.mem_of_getElem? (i := 887) rfl), rfl⟩
set_option maxRecDepth 10000 in
theorem wd_888 : ex_W (.code ⟨"StreamTowerModel", "number", "(I)J"⟩ prog_12_method_24_code 6 (some FieldType.long)) := ⟨List.mem_append_right _ (List.mem_of_getElem? (i := 888) rfl), rfl⟩
set_option maxRecDepth 10000 in
theorem wd_889 : ex_W (.methodLink "StreamTowerLaw" 103 ⟨"StreamTowerModel", "text", "()I"⟩) := ⟨List.mem_append_right _ (List.mem_of_getElem? (i := 889) rfl), rfl⟩
set_option maxRecDepth 10000 in
theorem wd_890 : ex_W (.instanceMethod ⟨"StreamTowerModel", "text", "()I"⟩) := ⟨List.mem_append_right _ (List.mem_of_getElem? (i := 890) rfl), rfl⟩
set_option maxRecDepth 10000 in
theorem wd_891 : ex_W (.selects "StreamTowerModel" ⟨"StreamTowerModel", "text", "()I"⟩ ⟨"StreamTowerModel", "text", "()I"⟩) := ⟨List.mem_append_right _ (List.mem_of_getElem? (i := 891) rfl), rfl⟩
set_option maxRecDepth 10000 in
theorem wd_892 : ex_W (.code ⟨"StreamTowerModel", "text", "()I"⟩ prog_12_method_28_code 5 (some FieldType.int)) := ⟨List.mem_append_right _ (List.mem_of_getElem? (i := 892) rfl), rfl⟩
set_option maxRecDepth 10000 in
theorem wd_893 : ex_W (.methodLink "StreamTowerModel" 138 ⟨"StreamTowerModel", "letterSize", "(I)I"⟩) := ⟨List.mem_append_right _ (List.mem_of_getElem? (i := 893) rfl), rfl⟩
set_option maxRecDepth 10000 in
theorem wd_895 : ex_W (.instanceMethod ⟨"StreamTowerModel", "letterSize", "(I)I"⟩) := ⟨List.mem_append_right _ (List.mem_of_getElem? (i := 895) rfl), rfl⟩
set_option maxRecDepth 10000 in
theorem wd_896 : ex_W (.code ⟨"StreamTowerModel", "letterSize", "(I)I"⟩ prog_12_method_26_code 3 (some FieldType.int)) := ⟨List.mem_append_right _ (List.mem_of_getElem? (i := 896) rfl), rfl⟩
set_option maxRecDepth 10000 in
theorem wd_897 : ex_W (.methodLink "StreamTowerModel" 135 ⟨"StreamTowerModel", "further", "(I)Z"⟩) := ⟨List.mem_append_right _ (List.mem_of_getElem? (i := 897) rfl), rfl⟩
set_option maxRecDepth 10000 in
theorem wd_899 : ex_W (.instanceMethod ⟨"StreamTowerModel", "further", "(I)Z"⟩) := ⟨List.mem_append_right _ (List.mem_of_getElem? (i := 899) rfl), rfl⟩
set_option maxRecDepth 10000 in
theorem wd_900 : ex_W (.code ⟨"StreamTowerModel", "further", "(I)Z"⟩ prog_12_method_25_code 2 (some FieldType.boolean)) := ⟨List.mem_append_right _ (List.mem_of_getElem? (i := 900) rfl), rfl⟩
set_option maxRecDepth 10000 in
theorem wd_901 : ex_W (.methodLink "StreamTowerModel" 144 ⟨"StreamTowerModel", "letterAt", "(II)I"⟩) := ⟨List.mem_append_right _ (List.mem_of_getElem? (i := 901) rfl), rfl⟩
set_option maxRecDepth 10000 in
theorem wd_903 : ex_W (.instanceMethod ⟨"StreamTowerModel", "letterAt", "(II)I"⟩) := ⟨List.mem_append_right _ (List.mem_of_getElem? (i := 903) rfl), rfl⟩
set_option maxRecDepth 10000 in
theorem wd_904 : ex_W (.code ⟨"StreamTowerModel", "letterAt", "(II)I"⟩ prog_12_method_27_code 4 (some FieldType.int)) := ⟨List.mem_append_right _ (List.mem_of_getElem? (i := 904) rfl), rfl⟩
set_option maxRecDepth 10000 in
theorem wd_905 : ex_W (.methodLink "StreamTowerLaw" 106 ⟨"StreamTowerModel", "line", "()I"⟩) := ⟨List.mem_append_right _ (List.mem_of_getElem? (i := 905) rfl), rfl⟩
set_option maxRecDepth 10000 in
theorem wd_906 : ex_W (.instanceMethod ⟨"StreamTowerModel", "line", "()I"⟩) := ⟨List.mem_append_right _ (List.mem_of_getElem? (i := 906) rfl), rfl⟩
set_option maxRecDepth 10000 in
theorem wd_907 : ex_W (.selects "StreamTowerModel" ⟨"StreamTowerModel", "line", "()I"⟩ ⟨"StreamTowerModel", "line", "()I"⟩) := ⟨List.mem_append_right _ (List.mem_of_getElem? (i := 907) rfl), rfl⟩
set_option maxRecDepth 10000 in
theorem wd_908 : ex_W (.code ⟨"StreamTowerModel", "line", "()I"⟩ prog_12_method_29_code 4 (some FieldType.int)) := ⟨List.mem_append_right _ (List.mem_of_getElem? (i := 908) rfl), rfl⟩
set_option maxRecDepth 10000 in
theorem wd_909 : ex_W (.methodLink "StreamTowerLaw" 109 ⟨"StreamTowerModel", "mark", "(I)V"⟩) := ⟨List.mem_append_right _ (List.mem_of_getElem? (i := 909) rfl), rfl⟩
set_option maxRecDepth 10000 in
theorem wd_910 : ex_W (.instanceMethod ⟨"StreamTowerModel", "mark", "(I)V"⟩) := ⟨List.mem_append_right _ (List.mem_of_getElem? (i := 910) rfl), rfl⟩
set_option maxRecDepth 10000 in
theorem wd_911 : ex_W (.selects "StreamTowerModel" ⟨"StreamTowerModel", "mark", "(I)V"⟩ ⟨"StreamTowerModel", "mark", "(I)V"⟩) := ⟨List.mem_append_right _ (List.mem_of_getElem? (i := 911) rfl), rfl⟩
set_option maxRecDepth 10000 in
theorem wd_912 : ex_W (.code ⟨"StreamTowerModel", "mark", "(I)V"⟩ prog_12_method_31_code 4 none) := ⟨List.mem_append_right _ (List.mem_of_getElem? (i := 912) rfl), rfl⟩
set_option maxRecDepth 10000 in
theorem wd_913 : ex_W (.methodLink "StreamTowerModel" 148 ⟨"StreamTowerModel", "bufferBelow", "()I"⟩) := ⟨List.mem_append_right _ (List.mem_of_getElem? (i := 913) rfl), rfl⟩
set_option maxRecDepth 10000 in
theorem wd_915 : ex_W (.instanceMethod ⟨"StreamTowerModel", "bufferBelow", "()I"⟩) := ⟨List.mem_append_right _ (List.mem_of_getElem? (i := 915) rfl), rfl⟩
set_option maxRecDepth 10000 in
theorem wd_916 : ex_W (.code ⟨"StreamTowerModel", "bufferBelow", "()I"⟩ prog_12_method_30_code 2 (some FieldType.int)) := ⟨List.mem_append_right _ (List.mem_of_getElem? (i := 916) rfl), rfl⟩
set_option maxRecDepth 10000 in
theorem wd_917 : ex_W (.methodLink "StreamTowerLaw" 113 ⟨"StreamTowerModel", "reset", "()V"⟩) := ⟨List.mem_append_right _ (List.mem_of_getElem? (i := 917) rfl), rfl⟩
set_option maxRecDepth 10000 in
theorem wd_918 : ex_W (.instanceMethod ⟨"StreamTowerModel", "reset", "()V"⟩) := ⟨List.mem_append_right _ (List.mem_of_getElem? (i := 918) rfl), rfl⟩
set_option maxRecDepth 10000 in
theorem wd_919 : ex_W (.selects "StreamTowerModel" ⟨"StreamTowerModel", "reset", "()V"⟩ ⟨"StreamTowerModel", "reset", "()V"⟩) := ⟨List.mem_append_right _ (List.mem_of_getElem? (i := 919) rfl), rfl⟩
set_option maxRecDepth 10000 in
theorem wd_920 : ex_W (.code ⟨"StreamTowerModel", "reset", "()V"⟩ prog_12_method_32_code 3 none) := ⟨List.mem_append_right _ (List.mem_of_getElem? (i := 920) rfl), rfl⟩
set_option maxRecDepth 10000 in
theorem wd_921 : ex_W (.methodLink "StreamTowerLaw" 116 ⟨"StreamTowerModel", "unread", "(I)V"⟩) := ⟨List.mem_append_right _ (List.mem_of_getElem? (i := 921) rfl), rfl⟩
set_option maxRecDepth 10000 in
theorem wd_922 : ex_W (.instanceMethod ⟨"StreamTowerModel", "unread", "(I)V"⟩) := ⟨List.mem_append_right _ (List.mem_of_getElem? (i := 922) rfl), rfl⟩
set_option maxRecDepth 10000 in
theorem wd_923 : ex_W (.selects "StreamTowerModel" ⟨"StreamTowerModel", "unread", "(I)V"⟩ ⟨"StreamTowerModel", "unread", "(I)V"⟩) := ⟨List.mem_append_right _ (List.mem_of_getElem? (i := 923) rfl), rfl⟩
set_option maxRecDepth 10000 in
theorem wd_924 : ex_W (.code ⟨"StreamTowerModel", "unread", "(I)V"⟩ prog_12_method_33_code 4 none) := ⟨List.mem_append_right _ (List.mem_of_getElem? (i := 924) rfl), rfl⟩
set_option maxRecDepth 10000 in
theorem wd_925 : ex_W (.methodLink "StreamTowerLaw" 120 ⟨"StreamTowerModel", "available", "()I"⟩) := ⟨List.mem_append_right _ (List.mem_of_getElem? (i := 925) rfl), rfl⟩
set_option maxRecDepth 10000 in
theorem wd_926 : ex_W (.instanceMethod ⟨"StreamTowerModel", "available", "()I"⟩) := ⟨List.mem_append_right _ (List.mem_of_getElem? (i := 926) rfl), rfl⟩
set_option maxRecDepth 10000 in
theorem wd_927 : ex_W (.selects "StreamTowerModel" ⟨"StreamTowerModel", "available", "()I"⟩ ⟨"StreamTowerModel", "available", "()I"⟩) := ⟨List.mem_append_right _ (List.mem_of_getElem? (i := 927) rfl), rfl⟩
set_option maxRecDepth 10000 in
theorem wd_928 : ex_W (.code ⟨"StreamTowerModel", "available", "()I"⟩ prog_12_method_34_code 3 (some FieldType.int)) := ⟨List.mem_append_right _ (List.mem_of_getElem? (i := 928) rfl), rfl⟩
set_option maxRecDepth 10000 in
theorem wd_929 : ex_W (.methodLink "StreamTowerLaw" 124 ⟨"StreamTowerModel", "close", "()V"⟩) := ⟨List.mem_append_right _ (List.mem_of_getElem? (i := 929) rfl), rfl⟩
set_option maxRecDepth 10000 in
theorem wd_930 : ex_W (.instanceMethod ⟨"StreamTowerModel", "close", "()V"⟩) := ⟨List.mem_append_right _ (List.mem_of_getElem? (i := 930) rfl), rfl⟩
set_option maxRecDepth 10000 in
theorem wd_931 : ex_W (.selects "StreamTowerModel" ⟨"StreamTowerModel", "close", "()V"⟩ ⟨"StreamTowerModel", "close", "()V"⟩) := ⟨List.mem_append_right _ (List.mem_of_getElem? (i := 931) rfl), rfl⟩
set_option maxRecDepth 10000 in
theorem wd_932 : ex_W (.code ⟨"StreamTowerModel", "close", "()V"⟩ prog_12_method_35_code 1 none) := ⟨List.mem_append_right _ (List.mem_of_getElem? (i := 932) rfl), rfl⟩
set_option maxRecDepth 10000 in
theorem wd_933 : ex_W (.methodLink "StreamTowerLaw" 128 ⟨"StreamTowerModel", "about", "(I)I"⟩) := ⟨List.mem_append_right _ (List.mem_of_getElem? (i := 933) rfl), rfl⟩
set_option maxRecDepth 10000 in
theorem wd_934 : ex_W (.instanceMethod ⟨"StreamTowerModel", "about", "(I)I"⟩) := ⟨List.mem_append_right _ (List.mem_of_getElem? (i := 934) rfl), rfl⟩
set_option maxRecDepth 10000 in
theorem wd_935 : ex_W (.selects "StreamTowerModel" ⟨"StreamTowerModel", "about", "(I)I"⟩ ⟨"StreamTowerModel", "about", "(I)I"⟩) := ⟨List.mem_append_right _ (List.mem_of_getElem? (i := 935) rfl), rfl⟩
set_option maxRecDepth 10000 in
theorem wd_936 : ex_W (.code ⟨"StreamTowerModel", "about", "(I)I"⟩ prog_12_method_36_code 2 (some FieldType.int)) := ⟨List.mem_append_right _ (List.mem_of_getElem? (i := 936) rfl), rfl⟩
set_option maxRecDepth 10000 in
theorem wd_937 : ex_W (.methodLink "StreamTowerLaw" 133 ⟨"StreamTowerModel", "size", "(Z)I"⟩) := ⟨List.mem_append_right _ (List.mem_of_getElem? (i := 937) rfl), rfl⟩
set_option maxRecDepth 10000 in
theorem wd_938 : ex_W (.instanceMethod ⟨"StreamTowerModel", "size", "(Z)I"⟩) := ⟨List.mem_append_right _ (List.mem_of_getElem? (i := 938) rfl), rfl⟩
set_option maxRecDepth 10000 in
theorem wd_939 : ex_W (.selects "StreamTowerModel" ⟨"StreamTowerModel", "size", "(Z)I"⟩ ⟨"StreamTowerModel", "size", "(Z)I"⟩) := ⟨List.mem_append_right _ (List.mem_of_getElem? (i := 939) rfl), rfl⟩
set_option maxRecDepth 10000 in
theorem wd_940 : ex_W (.code ⟨"StreamTowerModel", "size", "(Z)I"⟩ prog_12_method_37_code 2 (some FieldType.int)) := ⟨List.mem_append_right _ (List.mem_of_getElem? (i := 940) rfl), rfl⟩
set_option maxRecDepth 10000 in
theorem wd_941 : ex_W (.methodLink "StreamTowerLaw" 138 ⟨"StreamTowerModel", "at", "(IZ)I"⟩) := ⟨List.mem_append_right _ (List.mem_of_getElem? (i := 941) rfl), rfl⟩
set_option maxRecDepth 10000 in
theorem wd_942 : ex_W (.instanceMethod ⟨"StreamTowerModel", "at", "(IZ)I"⟩) := ⟨List.mem_append_right _ (List.mem_of_getElem? (i := 942) rfl), rfl⟩
set_option maxRecDepth 10000 in
theorem wd_943 : ex_W (.selects "StreamTowerModel" ⟨"StreamTowerModel", "at", "(IZ)I"⟩ ⟨"StreamTowerModel", "at", "(IZ)I"⟩) := ⟨List.mem_append_right _ (List.mem_of_getElem? (i := 943) rfl), rfl⟩
set_option maxRecDepth 10000 in
theorem wd_944 : ex_W (.code ⟨"StreamTowerModel", "at", "(IZ)I"⟩ prog_12_method_38_code 3 (some FieldType.int)) := ⟨List.mem_append_right _ (List.mem_of_getElem? (i := 944) rfl), rfl⟩
set_option maxRecDepth 10000 in
theorem wd_945 : ex_W (.arrayClass FieldType.long) := ⟨List.mem_append_right _ (List.mem_of_getElem? (i := 945) rfl), rfl⟩
set_option maxRecDepth 10000 in
theorem wd_946 : ex_W (.sameMethod "java/lang/Throwable" "java/lang/Throwable" "fillInStackTrace" "(I)Ljava/lang/Throwable;") := ⟨List.mem_append_right _ (List.mem_of_getElem? (i := 946) rfl), rfl⟩
set_option maxRecDepth 10000 in
theorem wd_947 : ex_W (.selects "StreamTower$Source" ⟨"StreamTower$Source", "ready", "()I"⟩ ⟨"StreamTower$Source", "ready", "()I"⟩) := ⟨List.mem_append_right _ (List.mem_of_getElem? (i := 947) rfl), rfl⟩
set_option maxRecDepth 10000 in
theorem wd_948 : ex_W (.castable "StreamTower$Pushback" "StreamTower$Pushback") := ⟨List.mem_append_right _ (List.mem_of_getElem? (i := 948) rfl), rfl⟩
set_option maxRecDepth 10000 in
theorem wd_949 : ex_W (.castable "StreamTower$Buffer" "StreamTower$Stream") := ⟨List.mem_append_right _ (List.mem_of_getElem? (i := 949) rfl), rfl⟩
set_option maxRecDepth 10000 in
theorem wd_950 : ex_W (.castable "StreamTower$Code" "StreamTower$Stream") := ⟨List.mem_append_right _ (List.mem_of_getElem? (i := 950) rfl), rfl⟩
set_option maxRecDepth 10000 in
theorem wd_951 : ex_W (.castable "StreamTower$Limit" "StreamTower$Stream") := ⟨List.mem_append_right _ (List.mem_of_getElem? (i := 951) rfl), rfl⟩
set_option maxRecDepth 10000 in
theorem wd_952 : ex_W (.castable "StreamTower$Lines" "StreamTower$Stream") := ⟨List.mem_append_right _ (List.mem_of_getElem? (i := 952) rfl), rfl⟩
set_option maxRecDepth 10000 in
theorem wd_953 : ex_W (.castable "StreamTower$Pushback" "StreamTower$Stream") := ⟨List.mem_append_right _ (List.mem_of_getElem? (i := 953) rfl), rfl⟩
set_option maxRecDepth 10000 in
theorem wd_954 : ex_W (.castable "StreamTower$Source" "StreamTower$Stream") := ⟨List.mem_append_right _ (List.mem_of_getElem? (i := 954) rfl), rfl⟩
def nc_L : List (String × String) := [("StreamTower", "java/lang/IllegalArgumentException"), ("StreamTower$Source", "java/lang/IllegalArgumentException"), ("StreamTower$Row", "java/lang/IllegalArgumentException"), ("StreamTowerModel", "java/lang/IllegalArgumentException"), ("java/lang/IllegalStateException", "java/lang/IllegalArgumentException"), ("StreamTower$Buffer", "java/lang/IllegalArgumentException"), ("StreamTower$Pushback", "java/lang/IllegalArgumentException"), ("StreamTower$Limit", "java/lang/IllegalArgumentException"), ("StreamTower$Code", "java/lang/IllegalArgumentException"), ("StreamTower$Lines", "java/lang/IllegalArgumentException"), ("java/util/NoSuchElementException", "java/lang/IllegalArgumentException"), ("java/lang/UnsupportedOperationException", "java/lang/IllegalArgumentException"), ("StreamTower", "java/lang/IllegalStateException"), ("StreamTower$Source", "java/lang/IllegalStateException"), ("StreamTower$Row", "java/lang/IllegalStateException"), ("StreamTowerModel", "java/lang/IllegalStateException"), ("java/lang/IllegalArgumentException", "java/lang/IllegalStateException"), ("StreamTower$Buffer", "java/lang/IllegalStateException"), ("StreamTower$Pushback", "java/lang/IllegalStateException"), ("StreamTower$Limit", "java/lang/IllegalStateException"), ("StreamTower$Code", "java/lang/IllegalStateException"), ("StreamTower$Lines", "java/lang/IllegalStateException"), ("java/util/NoSuchElementException", "java/lang/IllegalStateException"), ("java/lang/UnsupportedOperationException", "java/lang/IllegalStateException"), ("StreamTower", "java/util/NoSuchElementException"), ("StreamTower$Source", "java/util/NoSuchElementException"), ("StreamTower$Row", "java/util/NoSuchElementException"), ("StreamTowerModel", "java/util/NoSuchElementException"), ("java/lang/IllegalArgumentException", "java/util/NoSuchElementException"), ("java/lang/IllegalStateException", "java/util/NoSuchElementException"), ("StreamTower$Buffer", "java/util/NoSuchElementException"), ("StreamTower$Pushback", "java/util/NoSuchElementException"), ("StreamTower$Limit", "java/util/NoSuchElementException"), ("StreamTower$Code", "java/util/NoSuchElementException"), ("StreamTower$Lines", "java/util/NoSuchElementException"), ("java/lang/UnsupportedOperationException", "java/util/NoSuchElementException"), ("StreamTower", "java/lang/UnsupportedOperationException"), ("StreamTower$Source", "java/lang/UnsupportedOperationException"), ("StreamTower$Row", "java/lang/UnsupportedOperationException"), ("StreamTowerModel", "java/lang/UnsupportedOperationException"), ("java/lang/IllegalArgumentException", "java/lang/UnsupportedOperationException"), ("java/lang/IllegalStateException", "java/lang/UnsupportedOperationException"), ("StreamTower$Buffer", "java/lang/UnsupportedOperationException"), ("StreamTower$Pushback", "java/lang/UnsupportedOperationException"), ("StreamTower$Limit", "java/lang/UnsupportedOperationException"), ("StreamTower$Code", "java/lang/UnsupportedOperationException"), ("StreamTower$Lines", "java/lang/UnsupportedOperationException"), ("java/util/NoSuchElementException", "java/lang/UnsupportedOperationException"), ("StreamTower", "StreamTower$Pushback"), ("StreamTower$Source", "StreamTower$Pushback"), ("StreamTower$Row", "StreamTower$Pushback"), ("StreamTowerModel", "StreamTower$Pushback"), ("java/lang/IllegalArgumentException", "StreamTower$Pushback"), ("java/lang/IllegalStateException", "StreamTower$Pushback"), ("StreamTower$Buffer", "StreamTower$Pushback"), ("StreamTower$Limit", "StreamTower$Pushback"), ("StreamTower$Code", "StreamTower$Pushback"), ("StreamTower$Lines", "StreamTower$Pushback"), ("java/util/NoSuchElementException", "StreamTower$Pushback"), ("java/lang/UnsupportedOperationException", "StreamTower$Pushback")]
theorem sp_0 : ex_W (.selects "StreamTower" ⟨"StreamTower", "rowOf", "(Z)LStreamTower$Row;"⟩ ⟨"StreamTower", "rowOf", "(Z)LStreamTower$Row;"⟩) := ⟨List.mem_append_left _ (List.mem_of_getElem? (i := 0) rfl), rfl⟩
theorem sp_1 : ex_W (.selects "java/lang/Throwable" ⟨"java/lang/Throwable", "fillInStackTrace", "(I)Ljava/lang/Throwable;"⟩ ⟨"java/lang/Throwable", "fillInStackTrace", "(I)Ljava/lang/Throwable;"⟩) := ⟨List.mem_append_left _ (List.mem_of_getElem? (i := 1) rfl), rfl⟩
theorem sp_2 : ex_W (.selects "StreamTower" ⟨"StreamTower", "startReading", "()V"⟩ ⟨"StreamTower", "startReading", "()V"⟩) := ⟨List.mem_append_left _ (List.mem_of_getElem? (i := 2) rfl), rfl⟩
theorem sp_3 : ex_W (.selects "StreamTower" ⟨"StreamTower", "refuseWhenClosed", "()V"⟩ ⟨"StreamTower", "refuseWhenClosed", "()V"⟩) := ⟨List.mem_append_left _ (List.mem_of_getElem? (i := 3) rfl), rfl⟩
theorem sp_4 : ex_W (.selects "StreamTower" ⟨"StreamTower", "request", "(I)I"⟩ ⟨"StreamTower", "request", "(I)I"⟩) := ⟨List.mem_append_left _ (List.mem_of_getElem? (i := 4) rfl), rfl⟩
theorem sp_5 : ex_W (.selects "StreamTower$Lines" ⟨"StreamTower$Lines", "countLineEnd", "(I)V"⟩ ⟨"StreamTower$Lines", "countLineEnd", "(I)V"⟩) := ⟨List.mem_append_left _ (List.mem_of_getElem? (i := 5) rfl), rfl⟩
theorem sp_6 : ex_W (.selects "StreamTower$Buffer" ⟨"StreamTower$Buffer", "fill", "()I"⟩ ⟨"StreamTower$Buffer", "fill", "()I"⟩) := ⟨List.mem_append_left _ (List.mem_of_getElem? (i := 6) rfl), rfl⟩
theorem sp_7 : ex_W (.selects "StreamTower$Buffer" ⟨"StreamTower$Buffer", "forgetWhatNoMarkKeeps", "()V"⟩ ⟨"StreamTower$Buffer", "forgetWhatNoMarkKeeps", "()V"⟩) := ⟨List.mem_append_left _ (List.mem_of_getElem? (i := 7) rfl), rfl⟩
theorem sp_8 : ex_W (.selects "StreamTower" ⟨"StreamTower", "readAll", "(I)V"⟩ ⟨"StreamTower", "readAll", "(I)V"⟩) := ⟨List.mem_append_left _ (List.mem_of_getElem? (i := 8) rfl), rfl⟩
theorem sp_9 : ex_W (.selects "StreamTower" ⟨"StreamTower", "numberInBag", "(I)J"⟩ ⟨"StreamTower", "numberInBag", "(I)J"⟩) := ⟨List.mem_append_left _ (List.mem_of_getElem? (i := 9) rfl), rfl⟩
theorem sp_10 : ex_W (.selects "StreamTower" ⟨"StreamTower", "takeLetters", "()V"⟩ ⟨"StreamTower", "takeLetters", "()V"⟩) := ⟨List.mem_append_left _ (List.mem_of_getElem? (i := 10) rfl), rfl⟩
theorem sp_11 : ex_W (.selects "StreamTowerModel" ⟨"StreamTowerModel", "reads", "(I)Z"⟩ ⟨"StreamTowerModel", "reads", "(I)Z"⟩) := ⟨List.mem_append_left _ (List.mem_of_getElem? (i := 11) rfl), rfl⟩
theorem sp_12 : ex_W (.selects "StreamTowerModel" ⟨"StreamTowerModel", "request", "(I)Z"⟩ ⟨"StreamTowerModel", "request", "(I)Z"⟩) := ⟨List.mem_append_left _ (List.mem_of_getElem? (i := 12) rfl), rfl⟩
theorem sp_13 : ex_W (.selects "StreamTowerModel" ⟨"StreamTowerModel", "answers", "(I)Z"⟩ ⟨"StreamTowerModel", "answers", "(I)Z"⟩) := ⟨List.mem_append_left _ (List.mem_of_getElem? (i := 13) rfl), rfl⟩
theorem sp_14 : ex_W (.selects "StreamTowerModel" ⟨"StreamTowerModel", "toGive", "(I)I"⟩ ⟨"StreamTowerModel", "toGive", "(I)I"⟩) := ⟨List.mem_append_left _ (List.mem_of_getElem? (i := 14) rfl), rfl⟩
theorem sp_15 : ex_W (.selects "StreamTowerModel" ⟨"StreamTowerModel", "give", "(II)V"⟩ ⟨"StreamTowerModel", "give", "(II)V"⟩) := ⟨List.mem_append_left _ (List.mem_of_getElem? (i := 15) rfl), rfl⟩
theorem sp_16 : ex_W (.selects "StreamTowerModel" ⟨"StreamTowerModel", "forget", "(II)V"⟩ ⟨"StreamTowerModel", "forget", "(II)V"⟩) := ⟨List.mem_append_left _ (List.mem_of_getElem? (i := 16) rfl), rfl⟩
theorem sp_17 : ex_W (.selects "StreamTowerModel" ⟨"StreamTowerModel", "below", "(I)I"⟩ ⟨"StreamTowerModel", "below", "(I)I"⟩) := ⟨List.mem_append_left _ (List.mem_of_getElem? (i := 17) rfl), rfl⟩
theorem sp_18 : ex_W (.selects "StreamTowerModel" ⟨"StreamTowerModel", "through", "(I)Z"⟩ ⟨"StreamTowerModel", "through", "(I)Z"⟩) := ⟨List.mem_append_left _ (List.mem_of_getElem? (i := 18) rfl), rfl⟩
theorem sp_19 : ex_W (.selects "StreamTowerModel" ⟨"StreamTowerModel", "portionLeft", "()I"⟩ ⟨"StreamTowerModel", "portionLeft", "()I"⟩) := ⟨List.mem_append_left _ (List.mem_of_getElem? (i := 19) rfl), rfl⟩
theorem sp_20 : ex_W (.selects "StreamTowerModel" ⟨"StreamTowerModel", "pass", "(I)V"⟩ ⟨"StreamTowerModel", "pass", "(I)V"⟩) := ⟨List.mem_append_left _ (List.mem_of_getElem? (i := 20) rfl), rfl⟩
theorem sp_21 : ex_W (.selects "StreamTowerModel" ⟨"StreamTowerModel", "countLines", "(I)V"⟩ ⟨"StreamTowerModel", "countLines", "(I)V"⟩) := ⟨List.mem_append_left _ (List.mem_of_getElem? (i := 21) rfl), rfl⟩
theorem sp_22 : ex_W (.selects "StreamTowerModel" ⟨"StreamTowerModel", "putBag", "()V"⟩ ⟨"StreamTowerModel", "putBag", "()V"⟩) := ⟨List.mem_append_left _ (List.mem_of_getElem? (i := 22) rfl), rfl⟩
theorem sp_23 : ex_W (.selects "StreamTowerModel" ⟨"StreamTowerModel", "fill", "(I)I"⟩ ⟨"StreamTowerModel", "fill", "(I)I"⟩) := ⟨List.mem_append_left _ (List.mem_of_getElem? (i := 23) rfl), rfl⟩
theorem sp_24 : ex_W (.selects "StreamTowerModel" ⟨"StreamTowerModel", "letterSize", "(I)I"⟩ ⟨"StreamTowerModel", "letterSize", "(I)I"⟩) := ⟨List.mem_append_left _ (List.mem_of_getElem? (i := 24) rfl), rfl⟩
theorem sp_25 : ex_W (.selects "StreamTowerModel" ⟨"StreamTowerModel", "further", "(I)Z"⟩ ⟨"StreamTowerModel", "further", "(I)Z"⟩) := ⟨List.mem_append_left _ (List.mem_of_getElem? (i := 25) rfl), rfl⟩
theorem sp_26 : ex_W (.selects "StreamTowerModel" ⟨"StreamTowerModel", "letterAt", "(II)I"⟩ ⟨"StreamTowerModel", "letterAt", "(II)I"⟩) := ⟨List.mem_append_left _ (List.mem_of_getElem? (i := 26) rfl), rfl⟩
theorem sp_27 : ex_W (.selects "StreamTowerModel" ⟨"StreamTowerModel", "bufferBelow", "()I"⟩ ⟨"StreamTowerModel", "bufferBelow", "()I"⟩) := ⟨List.mem_append_left _ (List.mem_of_getElem? (i := 27) rfl), rfl⟩
theorem in_0 : ∀ w ∈ u_ws "StreamTower" T_0 10, ex_W w := by
  intro w hw
  have hw : w ∈ ([.laysFinal "StreamTower" "StreamTower" "source" "LStreamTower$Source;", .laysFinal "StreamTower" "StreamTower" "layers" "[LStreamTower$Stream;", .laysFinal "StreamTower" "StreamTower" "answered" "[I", .laysFinal "StreamTower" "StreamTower" "bag" "LStreamTower$Row;", .laysFinal "StreamTower" "StreamTower" "letters" "LStreamTower$Row;", .lays "StreamTower" "StreamTower" "top" "LStreamTower$Stream;", .lays "StreamTower" "StreamTower" "layerCount" "I", .lays "StreamTower" "StreamTower" "closed" "Z", .lays "StreamTower" "StreamTower" "leavesOutLineFeed" "Z", .lays "StreamTower" "StreamTower" "leftOutLineFeedAtMark" "Z"] : List Cond) := hw
  rcases List.mem_cons.mp hw with rfl | hw
  · exact wd_83
  rcases List.mem_cons.mp hw with rfl | hw
  · exact wd_85
  rcases List.mem_cons.mp hw with rfl | hw
  · exact wd_87
  rcases List.mem_cons.mp hw with rfl | hw
  · exact wd_89
  rcases List.mem_cons.mp hw with rfl | hw
  · exact wd_91
  rcases List.mem_cons.mp hw with rfl | hw
  · exact wd_93
  rcases List.mem_cons.mp hw with rfl | hw
  · exact wd_95
  rcases List.mem_cons.mp hw with rfl | hw
  · exact wd_97
  rcases List.mem_cons.mp hw with rfl | hw
  · exact wd_99
  rcases List.mem_cons.mp hw with rfl | hw
  · exact wd_101
  cases hw
theorem in_1 : ∀ w ∈ u_ws "StreamTower$Row" T_1 2, ex_W w := by
  intro w hw
  have hw : w ∈ ([.laysFinal "StreamTower$Row" "StreamTower$Row" "items" "[I", .lays "StreamTower$Row" "StreamTower$Row" "count" "I"] : List Cond) := hw
  rcases List.mem_cons.mp hw with rfl | hw
  · exact wd_68
  rcases List.mem_cons.mp hw with rfl | hw
  · exact wd_70
  cases hw
theorem in_2 : ∀ w ∈ u_ws "StreamTower$Source" T_2 5, ex_W w := by
  intro w hw
  have hw : w ∈ ([.laysFinal "StreamTower$Source" "StreamTower$Source" "bytes" "[I", .laysFinal "StreamTower$Source" "StreamTower$Source" "startsPortion" "[Z", .laysFinal "StreamTower$Source" "StreamTower$Source" "broken" "[Z", .lays "StreamTower$Source" "StreamTower$Source" "count" "I", .lays "StreamTower$Source" "StreamTower$Source" "taken" "I"] : List Cond) := hw
  rcases List.mem_cons.mp hw with rfl | hw
  · exact wd_44
  rcases List.mem_cons.mp hw with rfl | hw
  · exact wd_46
  rcases List.mem_cons.mp hw with rfl | hw
  · exact wd_48
  rcases List.mem_cons.mp hw with rfl | hw
  · exact wd_50
  rcases List.mem_cons.mp hw with rfl | hw
  · exact wd_52
  cases hw
theorem in_3 : ∀ w ∈ u_ws "StreamTower$Buffer" T_3 8, ex_W w := by
  intro w hw
  have hw : w ∈ ([.laysFinal "StreamTower$Buffer" "StreamTower$Buffer" "below" "LStreamTower$Stream;", .laysFinal "StreamTower$Buffer" "StreamTower$Buffer" "room" "I", .laysFinal "StreamTower$Buffer" "StreamTower$Buffer" "kept" "[I", .lays "StreamTower$Buffer" "StreamTower$Buffer" "first" "I", .lays "StreamTower$Buffer" "StreamTower$Buffer" "next" "I", .lays "StreamTower$Buffer" "StreamTower$Buffer" "end" "I", .lays "StreamTower$Buffer" "StreamTower$Buffer" "marked" "Z", .lays "StreamTower$Buffer" "StreamTower$Buffer" "markLimit" "I"] : List Cond) := hw
  rcases List.mem_cons.mp hw with rfl | hw
  · exact wd_325
  rcases List.mem_cons.mp hw with rfl | hw
  · exact wd_327
  rcases List.mem_cons.mp hw with rfl | hw
  · exact wd_329
  rcases List.mem_cons.mp hw with rfl | hw
  · exact wd_331
  rcases List.mem_cons.mp hw with rfl | hw
  · exact wd_333
  rcases List.mem_cons.mp hw with rfl | hw
  · exact wd_335
  rcases List.mem_cons.mp hw with rfl | hw
  · exact wd_337
  rcases List.mem_cons.mp hw with rfl | hw
  · exact wd_339
  cases hw
theorem in_4 : ∀ w ∈ u_ws "StreamTower$Pushback" T_4 3, ex_W w := by
  intro w hw
  have hw : w ∈ ([.laysFinal "StreamTower$Pushback" "StreamTower$Pushback" "below" "LStreamTower$Stream;", .laysFinal "StreamTower$Pushback" "StreamTower$Pushback" "bytes" "[I", .lays "StreamTower$Pushback" "StreamTower$Pushback" "count" "I"] : List Cond) := hw
  rcases List.mem_cons.mp hw with rfl | hw
  · exact wd_351
  rcases List.mem_cons.mp hw with rfl | hw
  · exact wd_353
  rcases List.mem_cons.mp hw with rfl | hw
  · exact wd_355
  cases hw
theorem in_5 : ∀ w ∈ u_ws "StreamTower$Limit" T_5 3, ex_W w := by
  intro w hw
  have hw : w ∈ ([.laysFinal "StreamTower$Limit" "StreamTower$Passing" "below" "LStreamTower$Stream;", .lays "StreamTower$Limit" "StreamTower$Limit" "left" "I", .lays "StreamTower$Limit" "StreamTower$Limit" "leftAtMark" "I"] : List Cond) := hw
  rcases List.mem_cons.mp hw with rfl | hw
  · exact wd_380
  rcases List.mem_cons.mp hw with rfl | hw
  · exact wd_376
  rcases List.mem_cons.mp hw with rfl | hw
  · exact wd_378
  cases hw
theorem in_6 : ∀ w ∈ u_ws "StreamTower$Code" T_6 4, ex_W w := by
  intro w hw
  have hw : w ∈ ([.laysFinal "StreamTower$Code" "StreamTower$Passing" "below" "LStreamTower$Stream;", .laysFinal "StreamTower$Code" "StreamTower$Code" "key" "I", .lays "StreamTower$Code" "StreamTower$Code" "coded" "I", .lays "StreamTower$Code" "StreamTower$Code" "codedAtMark" "I"] : List Cond) := hw
  rcases List.mem_cons.mp hw with rfl | hw
  · exact wd_398
  rcases List.mem_cons.mp hw with rfl | hw
  · exact wd_392
  rcases List.mem_cons.mp hw with rfl | hw
  · exact wd_394
  rcases List.mem_cons.mp hw with rfl | hw
  · exact wd_396
  cases hw
theorem in_7 : ∀ w ∈ u_ws "StreamTower$Lines" T_7 5, ex_W w := by
  intro w hw
  have hw : w ∈ ([.laysFinal "StreamTower$Lines" "StreamTower$Passing" "below" "LStreamTower$Stream;", .lays "StreamTower$Lines" "StreamTower$Lines" "lineEnds" "I", .lays "StreamTower$Lines" "StreamTower$Lines" "lineEndsAtMark" "I", .lays "StreamTower$Lines" "StreamTower$Lines" "lastWasReturn" "Z", .lays "StreamTower$Lines" "StreamTower$Lines" "lastWasReturnAtMark" "Z"] : List Cond) := hw
  rcases List.mem_cons.mp hw with rfl | hw
  · exact wd_418
  rcases List.mem_cons.mp hw with rfl | hw
  · exact wd_410
  rcases List.mem_cons.mp hw with rfl | hw
  · exact wd_412
  rcases List.mem_cons.mp hw with rfl | hw
  · exact wd_414
  rcases List.mem_cons.mp hw with rfl | hw
  · exact wd_416
  cases hw
theorem in_8 : ∀ w ∈ u_ws "StreamTowerModel" T_8 28, ex_W w := by
  intro w hw
  have hw : w ∈ ([.lays "StreamTowerModel" "StreamTowerModel" "code" "I", .laysFinal "StreamTowerModel" "StreamTowerModel" "source" "[I", .laysFinal "StreamTowerModel" "StreamTowerModel" "begins" "[Z", .laysFinal "StreamTowerModel" "StreamTowerModel" "broken" "[Z", .lays "StreamTowerModel" "StreamTowerModel" "fed" "I", .lays "StreamTowerModel" "StreamTowerModel" "taken" "I", .lays "StreamTowerModel" "StreamTowerModel" "layers" "I", .laysFinal "StreamTowerModel" "StreamTowerModel" "kind" "[I", .laysFinal "StreamTowerModel" "StreamTowerModel" "sizes" "[I", .laysFinal "StreamTowerModel" "StreamTowerModel" "state" "[I", .laysFinal "StreamTowerModel" "StreamTowerModel" "remembered" "[I", .laysFinal "StreamTowerModel" "StreamTowerModel" "cr" "[Z", .laysFinal "StreamTowerModel" "StreamTowerModel" "crRemembered" "[Z", .laysFinal "StreamTowerModel" "StreamTowerModel" "bytes" "[I", .laysFinal "StreamTowerModel" "StreamTowerModel" "have" "[I", .laysFinal "StreamTowerModel" "StreamTowerModel" "given" "[I", .laysFinal "StreamTowerModel" "StreamTowerModel" "marked" "[Z", .laysFinal "StreamTowerModel" "StreamTowerModel" "limit" "[I", .laysFinal "StreamTowerModel" "StreamTowerModel" "asked" "[I", .laysFinal "StreamTowerModel" "StreamTowerModel" "answer" "[I", .lays "StreamTowerModel" "StreamTowerModel" "count" "I", .lays "StreamTowerModel" "StreamTowerModel" "closed" "Z", .lays "StreamTowerModel" "StreamTowerModel" "leaves" "Z", .lays "StreamTowerModel" "StreamTowerModel" "leavesMarked" "Z", .laysFinal "StreamTowerModel" "StreamTowerModel" "bag" "[I", .lays "StreamTowerModel" "StreamTowerModel" "bagged" "I", .laysFinal "StreamTowerModel" "StreamTowerModel" "letters" "[I", .lays "StreamTowerModel" "StreamTowerModel" "lettered" "I"] : List Cond) := hw
  rcases List.mem_cons.mp hw with rfl | hw
  · exact wd_740
  rcases List.mem_cons.mp hw with rfl | hw
  · exact wd_742
  rcases List.mem_cons.mp hw with rfl | hw
  · exact wd_744
  rcases List.mem_cons.mp hw with rfl | hw
  · exact wd_746
  rcases List.mem_cons.mp hw with rfl | hw
  · exact wd_748
  rcases List.mem_cons.mp hw with rfl | hw
  · exact wd_750
  rcases List.mem_cons.mp hw with rfl | hw
  · exact wd_752
  rcases List.mem_cons.mp hw with rfl | hw
  · exact wd_754
  rcases List.mem_cons.mp hw with rfl | hw
  · exact wd_756
  rcases List.mem_cons.mp hw with rfl | hw
  · exact wd_758
  rcases List.mem_cons.mp hw with rfl | hw
  · exact wd_760
  rcases List.mem_cons.mp hw with rfl | hw
  · exact wd_762
  rcases List.mem_cons.mp hw with rfl | hw
  · exact wd_764
  rcases List.mem_cons.mp hw with rfl | hw
  · exact wd_766
  rcases List.mem_cons.mp hw with rfl | hw
  · exact wd_768
  rcases List.mem_cons.mp hw with rfl | hw
  · exact wd_770
  rcases List.mem_cons.mp hw with rfl | hw
  · exact wd_772
  rcases List.mem_cons.mp hw with rfl | hw
  · exact wd_774
  rcases List.mem_cons.mp hw with rfl | hw
  · exact wd_776
  rcases List.mem_cons.mp hw with rfl | hw
  · exact wd_778
  rcases List.mem_cons.mp hw with rfl | hw
  · exact wd_780
  rcases List.mem_cons.mp hw with rfl | hw
  · exact wd_782
  rcases List.mem_cons.mp hw with rfl | hw
  · exact wd_784
  rcases List.mem_cons.mp hw with rfl | hw
  · exact wd_786
  rcases List.mem_cons.mp hw with rfl | hw
  · exact wd_788
  rcases List.mem_cons.mp hw with rfl | hw
  · exact wd_790
  rcases List.mem_cons.mp hw with rfl | hw
  · exact wd_792
  rcases List.mem_cons.mp hw with rfl | hw
  · exact wd_794
  cases hw
theorem in_9 : ∀ w ∈ u_ws "java/lang/IllegalArgumentException" T_9 0, ex_W w := by
  intro w hw
  have hw : w ∈ ([] : List Cond) := hw
  cases hw
theorem in_10 : ∀ w ∈ u_ws "java/lang/IllegalStateException" T_10 0, ex_W w := by
  intro w hw
  have hw : w ∈ ([] : List Cond) := hw
  cases hw
theorem in_11 : ∀ w ∈ u_ws "java/util/NoSuchElementException" T_11 0, ex_W w := by
  intro w hw
  have hw : w ∈ ([] : List Cond) := hw
  cases hw
theorem in_12 : ∀ w ∈ u_ws "java/lang/UnsupportedOperationException" T_12 0, ex_W w := by
  intro w hw
  have hw : w ∈ ([] : List Cond) := hw
  cases hw
theorem cl_in : ∀ (t : Nat) (C : String) (T : u_T) (N : Nat), cl_L[t]? = some (C, T, N) → ∀ w ∈ u_ws C T N, ex_W w := by
  intro t C T N h
  match t, h with
  | 0, h => obtain ⟨⟩ := Option.some.inj h; exact in_0
  | 1, h => obtain ⟨⟩ := Option.some.inj h; exact in_1
  | 2, h => obtain ⟨⟩ := Option.some.inj h; exact in_2
  | 3, h => obtain ⟨⟩ := Option.some.inj h; exact in_3
  | 4, h => obtain ⟨⟩ := Option.some.inj h; exact in_4
  | 5, h => obtain ⟨⟩ := Option.some.inj h; exact in_5
  | 6, h => obtain ⟨⟩ := Option.some.inj h; exact in_6
  | 7, h => obtain ⟨⟩ := Option.some.inj h; exact in_7
  | 8, h => obtain ⟨⟩ := Option.some.inj h; exact in_8
  | 9, h => obtain ⟨⟩ := Option.some.inj h; exact in_9
  | 10, h => obtain ⟨⟩ := Option.some.inj h; exact in_10
  | 11, h => obtain ⟨⟩ := Option.some.inj h; exact in_11
  | 12, h => obtain ⟨⟩ := Option.some.inj h; exact in_12
  | n + 13, h => simp [cl_L] at h
def ty_0 : Nat → FieldType := fun k => match k with
  | 0 => .object "StreamTower$Source"
  | 1 => .array (.object "StreamTower$Stream")
  | 2 => .array .int
  | 3 => .object "StreamTower$Row"
  | 4 => .object "StreamTower$Row"
  | 5 => .object "StreamTower$Stream"
  | 6 => .int
  | 7 => .boolean
  | 8 => .boolean
  | _ => .boolean
theorem tyk_0 : ∀ k, k < 10 → parseFieldDescriptor (T_0 k).2.2.1 = some (ty_0 k) := by decide +kernel
theorem nmk_0 : ∀ a, a < 10 → ∀ b, b < 10 → a ≠ b → (T_0 a).2.1 ≠ (T_0 b).2.1 := by decide +kernel
def ty_1 : Nat → FieldType := fun k => match k with
  | 0 => .array .int
  | _ => .int
theorem tyk_1 : ∀ k, k < 2 → parseFieldDescriptor (T_1 k).2.2.1 = some (ty_1 k) := by decide +kernel
theorem nmk_1 : ∀ a, a < 2 → ∀ b, b < 2 → a ≠ b → (T_1 a).2.1 ≠ (T_1 b).2.1 := by decide +kernel
def ty_2 : Nat → FieldType := fun k => match k with
  | 0 => .array .int
  | 1 => .array .boolean
  | 2 => .array .boolean
  | 3 => .int
  | _ => .int
theorem tyk_2 : ∀ k, k < 5 → parseFieldDescriptor (T_2 k).2.2.1 = some (ty_2 k) := by decide +kernel
theorem nmk_2 : ∀ a, a < 5 → ∀ b, b < 5 → a ≠ b → (T_2 a).2.1 ≠ (T_2 b).2.1 := by decide +kernel
def ty_3 : Nat → FieldType := fun k => match k with
  | 0 => .object "StreamTower$Stream"
  | 1 => .int
  | 2 => .array .int
  | 3 => .int
  | 4 => .int
  | 5 => .int
  | 6 => .boolean
  | _ => .int
theorem tyk_3 : ∀ k, k < 8 → parseFieldDescriptor (T_3 k).2.2.1 = some (ty_3 k) := by decide +kernel
theorem nmk_3 : ∀ a, a < 8 → ∀ b, b < 8 → a ≠ b → (T_3 a).2.1 ≠ (T_3 b).2.1 := by decide +kernel
def ty_4 : Nat → FieldType := fun k => match k with
  | 0 => .object "StreamTower$Stream"
  | 1 => .array .int
  | _ => .int
theorem tyk_4 : ∀ k, k < 3 → parseFieldDescriptor (T_4 k).2.2.1 = some (ty_4 k) := by decide +kernel
theorem nmk_4 : ∀ a, a < 3 → ∀ b, b < 3 → a ≠ b → (T_4 a).2.1 ≠ (T_4 b).2.1 := by decide +kernel
def ty_5 : Nat → FieldType := fun k => match k with
  | 0 => .object "StreamTower$Stream"
  | 1 => .int
  | _ => .int
theorem tyk_5 : ∀ k, k < 3 → parseFieldDescriptor (T_5 k).2.2.1 = some (ty_5 k) := by decide +kernel
theorem nmk_5 : ∀ a, a < 3 → ∀ b, b < 3 → a ≠ b → (T_5 a).2.1 ≠ (T_5 b).2.1 := by decide +kernel
def ty_6 : Nat → FieldType := fun k => match k with
  | 0 => .object "StreamTower$Stream"
  | 1 => .int
  | 2 => .int
  | _ => .int
theorem tyk_6 : ∀ k, k < 4 → parseFieldDescriptor (T_6 k).2.2.1 = some (ty_6 k) := by decide +kernel
theorem nmk_6 : ∀ a, a < 4 → ∀ b, b < 4 → a ≠ b → (T_6 a).2.1 ≠ (T_6 b).2.1 := by decide +kernel
def ty_7 : Nat → FieldType := fun k => match k with
  | 0 => .object "StreamTower$Stream"
  | 1 => .int
  | 2 => .int
  | 3 => .boolean
  | _ => .boolean
theorem tyk_7 : ∀ k, k < 5 → parseFieldDescriptor (T_7 k).2.2.1 = some (ty_7 k) := by decide +kernel
theorem nmk_7 : ∀ a, a < 5 → ∀ b, b < 5 → a ≠ b → (T_7 a).2.1 ≠ (T_7 b).2.1 := by decide +kernel
def ty_8 : Nat → FieldType := fun k => match k with
  | 0 => .int
  | 1 => .array .int
  | 2 => .array .boolean
  | 3 => .array .boolean
  | 4 => .int
  | 5 => .int
  | 6 => .int
  | 7 => .array .int
  | 8 => .array .int
  | 9 => .array .int
  | 10 => .array .int
  | 11 => .array .boolean
  | 12 => .array .boolean
  | 13 => .array .int
  | 14 => .array .int
  | 15 => .array .int
  | 16 => .array .boolean
  | 17 => .array .int
  | 18 => .array .int
  | 19 => .array .int
  | 20 => .int
  | 21 => .boolean
  | 22 => .boolean
  | 23 => .boolean
  | 24 => .array .int
  | 25 => .int
  | 26 => .array .int
  | _ => .int
theorem tyk_8 : ∀ k, k < 28 → parseFieldDescriptor (T_8 k).2.2.1 = some (ty_8 k) := by decide +kernel
theorem nmk_8 : ∀ a, a < 28 → ∀ b, b < 28 → a ≠ b → (T_8 a).2.1 ≠ (T_8 b).2.1 := by decide +kernel
def ty_9 : Nat → FieldType := fun k => match k with
  | _ => .int
theorem tyk_9 : ∀ k, k < 0 → parseFieldDescriptor (T_9 k).2.2.1 = some (ty_9 k) := by decide +kernel
theorem nmk_9 : ∀ a, a < 0 → ∀ b, b < 0 → a ≠ b → (T_9 a).2.1 ≠ (T_9 b).2.1 := by decide +kernel
def ty_10 : Nat → FieldType := fun k => match k with
  | _ => .int
theorem tyk_10 : ∀ k, k < 0 → parseFieldDescriptor (T_10 k).2.2.1 = some (ty_10 k) := by decide +kernel
theorem nmk_10 : ∀ a, a < 0 → ∀ b, b < 0 → a ≠ b → (T_10 a).2.1 ≠ (T_10 b).2.1 := by decide +kernel
def ty_11 : Nat → FieldType := fun k => match k with
  | _ => .int
theorem tyk_11 : ∀ k, k < 0 → parseFieldDescriptor (T_11 k).2.2.1 = some (ty_11 k) := by decide +kernel
theorem nmk_11 : ∀ a, a < 0 → ∀ b, b < 0 → a ≠ b → (T_11 a).2.1 ≠ (T_11 b).2.1 := by decide +kernel
def ty_12 : Nat → FieldType := fun k => match k with
  | _ => .int
theorem tyk_12 : ∀ k, k < 0 → parseFieldDescriptor (T_12 k).2.2.1 = some (ty_12 k) := by decide +kernel
theorem nmk_12 : ∀ a, a < 0 → ∀ b, b < 0 → a ≠ b → (T_12 a).2.1 ≠ (T_12 b).2.1 := by decide +kernel
theorem cl_ty : ∀ (t : Nat) (C : String) (T : u_T) (N : Nat), cl_L[t]? = some (C, T, N) → ∃ ty : Nat → FieldType, ∀ k, k < N → parseFieldDescriptor (T k).2.2.1 = some (ty k) := by
  intro t C T N h
  match t, h with
  | 0, h => obtain ⟨⟩ := Option.some.inj h; exact ⟨_, tyk_0⟩
  | 1, h => obtain ⟨⟩ := Option.some.inj h; exact ⟨_, tyk_1⟩
  | 2, h => obtain ⟨⟩ := Option.some.inj h; exact ⟨_, tyk_2⟩
  | 3, h => obtain ⟨⟩ := Option.some.inj h; exact ⟨_, tyk_3⟩
  | 4, h => obtain ⟨⟩ := Option.some.inj h; exact ⟨_, tyk_4⟩
  | 5, h => obtain ⟨⟩ := Option.some.inj h; exact ⟨_, tyk_5⟩
  | 6, h => obtain ⟨⟩ := Option.some.inj h; exact ⟨_, tyk_6⟩
  | 7, h => obtain ⟨⟩ := Option.some.inj h; exact ⟨_, tyk_7⟩
  | 8, h => obtain ⟨⟩ := Option.some.inj h; exact ⟨_, tyk_8⟩
  | 9, h => obtain ⟨⟩ := Option.some.inj h; exact ⟨_, tyk_9⟩
  | 10, h => obtain ⟨⟩ := Option.some.inj h; exact ⟨_, tyk_10⟩
  | 11, h => obtain ⟨⟩ := Option.some.inj h; exact ⟨_, tyk_11⟩
  | 12, h => obtain ⟨⟩ := Option.some.inj h; exact ⟨_, tyk_12⟩
  | n + 13, h => simp [cl_L] at h
theorem cl_nm : ∀ (t : Nat) (C : String) (T : u_T) (N : Nat), cl_L[t]? = some (C, T, N) → ∀ a, a < N → ∀ b, b < N → a ≠ b → (T a).2.1 ≠ (T b).2.1 := by
  intro t C T N h
  match t, h with
  | 0, h => obtain ⟨⟩ := Option.some.inj h; exact nmk_0
  | 1, h => obtain ⟨⟩ := Option.some.inj h; exact nmk_1
  | 2, h => obtain ⟨⟩ := Option.some.inj h; exact nmk_2
  | 3, h => obtain ⟨⟩ := Option.some.inj h; exact nmk_3
  | 4, h => obtain ⟨⟩ := Option.some.inj h; exact nmk_4
  | 5, h => obtain ⟨⟩ := Option.some.inj h; exact nmk_5
  | 6, h => obtain ⟨⟩ := Option.some.inj h; exact nmk_6
  | 7, h => obtain ⟨⟩ := Option.some.inj h; exact nmk_7
  | 8, h => obtain ⟨⟩ := Option.some.inj h; exact nmk_8
  | 9, h => obtain ⟨⟩ := Option.some.inj h; exact nmk_9
  | 10, h => obtain ⟨⟩ := Option.some.inj h; exact nmk_10
  | 11, h => obtain ⟨⟩ := Option.some.inj h; exact nmk_11
  | 12, h => obtain ⟨⟩ := Option.some.inj h; exact nmk_12
  | n + 13, h => simp [cl_L] at h
end
section
/-! The judgement, and rows. -/
/-- the words of the tables and the classes' numbers, at the law's entry -/
def G_0 (l : Launch) (s0 : State) (A0 : Array Value) (G : Gx_t) : Prop := (∀ w ∈ lw_tbl, w.before A0 s0 = true) ∧ va_K G.1 cl_L (ex_Ty G) s0 ∧ l.stackTraces = false ∧ (Cond.isRef (.static Bundle.tN "UNASSIGNED_STACK" Bundle.steD)).before A0 s0 = true ∧ (Cond.isRef (.static Bundle.tN "SUPPRESSED_SENTINEL" Bundle.listD)).before A0 s0 = true ∧ ∀ q ∈ nc_L, va_Nc q.1 q.2 s0
def Cx_t (p : Program) (s : State) (m : MethodId) (meth : Method) (c : Code) (s0 : State) (A0 : Array Value) (l : Launch) (G : Gx_t) (y : MethodName) (cc : ByteArray) (nL : Nat) (ret : Option FieldType) (hh : List (Nat × Nat × Nat × Nat)) : Prop :=
  p.tables.exec = Jvm.exec ∧ c.code = cc ∧ c.maxLocals = nL ∧ meth.sig.returnType = ret ∧ meth.locks = false ∧ c.exceptionTable.toList.map (fun h => (h.startPc, h.endPc, h.handlerPc, h.catchType)) = hh ∧ s.vm.findClass y.cls = some m.cls ∧ meth.name = y.name ∧ s0.WarmedH s.vm ∧ (∀ q : Nat, q < s0.heap.size → s.heap[q]? = s0.heap[q]?) ∧ G_0 l s0 A0 G
section CX
variable {p : Program} {s : State} {m : MethodId} {meth : Method} {c : Code} {s0 : State} {A0 : Array Value} {l : Launch} {G : Gx_t} {y : MethodName} {cc : ByteArray} {nL : Nat} {ret : Option FieldType} {hh : List (Nat × Nat × Nat × Nat)}
theorem Cx_t.x (h : Cx_t p s m meth c s0 A0 l G y cc nL ret hh) : p.tables.exec = Jvm.exec := h.1
theorem Cx_t.b (h : Cx_t p s m meth c s0 A0 l G y cc nL ret hh) : c.code = cc := h.2.1
theorem Cx_t.ml (h : Cx_t p s m meth c s0 A0 l G y cc nL ret hh) : c.maxLocals = nL := h.2.2.1
theorem Cx_t.r (h : Cx_t p s m meth c s0 A0 l G y cc nL ret hh) : meth.sig.returnType = ret := h.2.2.2.1
theorem Cx_t.k (h : Cx_t p s m meth c s0 A0 l G y cc nL ret hh) : meth.locks = false := h.2.2.2.2.1
theorem Cx_t.t (h : Cx_t p s m meth c s0 A0 l G y cc nL ret hh) : c.exceptionTable.toList.map (fun h => (h.startPc, h.endPc, h.handlerPc, h.catchType)) = hh := h.2.2.2.2.2.1
theorem Cx_t.o (h : Cx_t p s m meth c s0 A0 l G y cc nL ret hh) : s.vm.findClass y.cls = some m.cls := h.2.2.2.2.2.2.1
theorem Cx_t.n (h : Cx_t p s m meth c s0 A0 l G y cc nL ret hh) : meth.name = y.name := h.2.2.2.2.2.2.2.1
theorem Cx_t.w0 (h : Cx_t p s m meth c s0 A0 l G y cc nL ret hh) : s0.WarmedH s.vm := h.2.2.2.2.2.2.2.2.1
theorem Cx_t.hp (h : Cx_t p s m meth c s0 A0 l G y cc nL ret hh) : ∀ q : Nat, q < s0.heap.size → s.heap[q]? = s0.heap[q]? := h.2.2.2.2.2.2.2.2.2.1
theorem Cx_t.g (h : Cx_t p s m meth c s0 A0 l G y cc nL ret hh) : G_0 l s0 A0 G := h.2.2.2.2.2.2.2.2.2.2
theorem Cx_t.w (h : Cx_t p s m meth c s0 A0 l G y cc nL ret hh) {args : Array Value} {w : Cond} (hw : ex_W w) : w.before args s = true := ex_warm h.w0 hw.2 (h.g.1 w hw.1)
theorem Cx_t.K (h : Cx_t p s m meth c s0 A0 l G y cc nL ret hh) : va_K G.1 cl_L (ex_Ty G) s := va_K.moved h.w0.alike h.g.2.1
theorem Cx_t.nc (h : Cx_t p s m meth c s0 A0 l G y cc nL ret hh) {C T : String} (hq : (C, T) ∈ nc_L) : va_Nc C T s := va_Nc.moved h.w0.alike (h.g.2.2.2.2.2 (C, T) hq)
theorem Cx_t.off (h : Cx_t p s m meth c s0 A0 l G y cc nL ret []) (pc : Nat) : ∀ x ∈ c.exceptionTable.toList, covers x pc = false := by
  have h1 := h.t
  simp only [List.map_eq_nil_iff] at h1
  rw [h1]
  intro x hx
  cases hx
end CX
def xn_End (st t : State) (L : List Loc) (k n : Nat) : Prop := st.WarmedH t.vm ∧ st.sameButNew ({ t with vm := st.vm } : State) L k n
def xq_MQ (G : Gx_t) (s0 : State) (below : List Frame) (r : Outcome × Hs_t) (s : State) (mc ms : Nat) : State → Prop := fun t =>
  ∃ o, t.status = .running ∧ Ended t below o ∧ (o = r.1 ∧ Rp_h G s0.heap r.2 t.heap) ∧ ∃ L, xn_End s t L mc ms ∧ ∀ q ∈ L, s0.heap.size ≤ q.base
def xp_Pc (G : Gx_t) (s0 : State) (vs : List Value) (h : Hs_t) : Array Value → State → Prop := fun a U => a = vs.toArray ∧ s0.WarmedH U.vm ∧ Rp_h G s0.heap h U.heap
/-- the method y, of that code word, called with vs on a machine that holds h, ends as r says -/
def M_X (G : Gx_t) (s0 : State) (l : Launch) (y : MethodName) (w : Cond) (rm : Room) (vs : List Value) (h : Hs_t) (r : Outcome × Hs_t) : Prop :=
  MetFree l y (headSpec [w] rm) (xp_Pc G s0 vs h) (fun _ _ _ _ _ => True) (fun _ st o t => (o = r.1 ∧ Rp_h G s0.heap r.2 t.heap) ∧ ∃ L, xn_End st t L rm.cells rm.slots ∧ ∀ q ∈ L, s0.heap.size ≤ q.base)
theorem M_X.of {G : Gx_t} {s0 : State} {A0 : Array Value} {l : Launch} {y : MethodName} {cc : ByteArray} {nL : Nat} {ret : Option FieldType} {rm : Room} {vs : List Value} {h : Hs_t} {r : Outcome × Hs_t} (hy : plainName y.cls = true) (hG : G_0 l s0 A0 G)
    (body : ∀ (p : Program) (e : Env) (s : State) (m : MethodId) (below : List Frame) (meth : Method) (c : Code) (H : Heap), Cx_t p s m meth c s0 A0 l G y cc nL ret [] → Rp_h G s0.heap h H → W p l e rm s m vs.toArray below meth c H [] 0 0 (xq_MQ G s0 below r s rm.cells rm.slots) (entryFrame m vs.toArray nL)) :
    M_X G s0 l y (.code y cc nL ret) rm vs h r := by
  refine MetFree.of_bodyS (code := cc) (maxLocals := nL) (ret := ret) hy ?_ ?_
  · intro args s m h hn
    obtain ⟨meth, c, h1, h2, h3, h4, h5, h6, -, -⟩ := Cond.code_spec hn (atoms_spec (ws := [Cond.code y cc nL ret]) h _ List.mem_cons_self)
    exact ⟨meth, c, h1, h2, h3, h4, h5, h6⟩
  · intro p e s m args below meth c s₁ B hml hP _
    obtain ⟨rfl, hW, hR⟩ := hP
    have hh0 : s₁.heap = s.heap := by rw [B.state]; rfl
    have hcode := atoms_spec (ws := [Cond.code y cc nL ret]) B.pre _ List.mem_cons_self
    have hxt : c.exceptionTable.toList = [] := by
      have h9 := BodyLoose.noHandlers B hcode
      simpa using h9
    obtain ⟨t, a1, o, b1, b2, b3⟩ := body p e s m below meth c s.heap ⟨B.exec, B.bytes, hml, B.returns, B.notSynchronized, by rw [hxt]; rfl, findClass_of_methodNamed B.named, (name_of_methodNamed B.named B.method).1, hW, hR.2.2.1, hG⟩ hR s₁ hh0 (Stand.of_body B)
    exact ⟨t, o, a1, b1, b2, b3⟩
theorem M_X.ofH {G : Gx_t} {s0 : State} {A0 : Array Value} {l : Launch} {y : MethodName} {cc : ByteArray} {nL : Nat} {ret : Option FieldType} {hh : List (Nat × Nat × Nat × Nat)} {rm : Room} {vs : List Value} {h : Hs_t} {r : Outcome × Hs_t} (hy : plainName y.cls = true) (hG : G_0 l s0 A0 G)
    (body : ∀ (p : Program) (e : Env) (s : State) (m : MethodId) (below : List Frame) (meth : Method) (c : Code) (H : Heap), Cx_t p s m meth c s0 A0 l G y cc nL ret hh → Rp_h G s0.heap h H → W p l e rm s m vs.toArray below meth c H [] 0 0 (xq_MQ G s0 below r s rm.cells rm.slots) (entryFrame m vs.toArray nL)) :
    M_X G s0 l y (.codeWith y cc nL ret hh) rm vs h r := by
  refine MetFree.of_bodyS (code := cc) (maxLocals := nL) (ret := ret) hy ?_ ?_
  · intro args s m h hn
    obtain ⟨m9, meth, c, hn9, h1, h2, h3, h4, -, h5, h6, -⟩ := Cond.codeWith_spec (atoms_spec (ws := [Cond.codeWith y cc nL ret hh]) h _ List.mem_cons_self)
    cases hn.symm.trans hn9
    exact ⟨meth, c, h1, h2, h3, h4, h5, h6⟩
  · intro p e s m args below meth c s₁ B hml hP _
    obtain ⟨rfl, hW, hR⟩ := hP
    have hh0 : s₁.heap = s.heap := by rw [B.state]; rfl
    obtain ⟨m9, meth9, c9, hn9, h1, h2, -, -, h4, -, -, -⟩ := Cond.codeWith_spec (atoms_spec (ws := [Cond.codeWith y cc nL ret hh]) B.pre _ List.mem_cons_self)
    cases B.named.symm.trans hn9
    cases B.method.symm.trans h1
    cases (Stand.of_body B).code.symm.trans h2
    obtain ⟨t, a1, o, b1, b2, b3⟩ := body p e s m below meth c s.heap ⟨B.exec, B.bytes, hml, B.returns, B.notSynchronized, h4, findClass_of_methodNamed B.named, (name_of_methodNamed B.named B.method).1, hW, hR.2.2.1, hG⟩ hR s₁ hh0 (Stand.of_body B)
    exact ⟨t, o, a1, b1, b2, b3⟩
section RX
variable {p : Program} {l : Launch} {e : Env} {R : Room} {s : State} {m : MethodId} {args : Array Value} {below : List Frame} {meth : Method} {c : Code} {H : Heap} {locs : List Loc} {cells slots : Nat} {Q : State → Prop}
variable {s0 : State} {A0 : Array Value} {G : Gx_t} {y : MethodName} {cc : ByteArray} {nL : Nat} {ret : Option FieldType} {hh : List (Nat × Nat × Nat × Nat)} {pc : Nat} {ls : Array Slot} {st : List Value} {h : Hs_t} {r : Outcome × Hs_t} {a : Nat}
theorem xw_mono {Q' : State → Prop} {g : JFrame} (hq : ∀ t, Q t → Q' t) (k : W p l e R s m args below meth c H locs cells slots Q g) : W p l e R s m args below meth c H locs cells slots Q' g := by
  intro T hT X
  obtain ⟨t, a1, b1⟩ := k T hT X
  exact ⟨t, a1, hq t b1⟩
theorem xw_end {mc ms : Nat} {t : State} (h1 : cells ≤ mc) (h2 : slots ≤ ms) (hq : MQ below (fun _ _ o t => o = r.1 ∧ Rp_h G s0.heap r.2 t.heap) args s cells slots (fun q => s0.heap.size ≤ q) t) : xq_MQ G s0 below r s mc ms t := by
  obtain ⟨o, q1, q2, q3, L, ⟨-, q4, q5⟩, q6⟩ := hq
  exact ⟨o, q1, q2, q3, L, ⟨q4, q5.mono h1 h2⟩, q6⟩
/-- no slot of an old cell has been written -/
abbrev Lo_k (s0 : State) (locs : List Loc) : Prop := ∀ q ∈ locs, s0.heap.size ≤ q.base
theorem x_iret {v : Int32} (hc : Cx_t p s m meth c s0 A0 l G y cc nL (some .int) hh) (hR : Rp_h G s0.heap h H) (hL : Lo_k s0 locs) (hce : cells ≤ R.cells ∧ slots ≤ R.slots) (heq : re_I v h = some r) (hdg : decode cc pc = .ok (.ireturn, 1)) : W p l e R s m args below meth c H locs cells slots (xq_MQ G s0 below r s R.cells R.slots) (F0 m pc ls [.int v]) := by
  cases heq
  have hlocks := hc.k
  exact xw_mono (fun t => xw_end hce.1 hce.2) (W.iret hc.x hc.b hc.r (fun t ht _ => ⟨rfl, by rw [ht]; exact hR⟩) hL hdg)
theorem x_zret {v : Int32} (hc : Cx_t p s m meth c s0 A0 l G y cc nL (some .boolean) hh) (hR : Rp_h G s0.heap h H) (hL : Lo_k s0 locs) (hce : cells ≤ R.cells ∧ slots ≤ R.slots) (heq : re_Z v h = some r) (hdg : decode cc pc = .ok (.ireturn, 1)) : W p l e R s m args below meth c H locs cells slots (xq_MQ G s0 below r s R.cells R.slots) (F0 m pc ls [.int v]) := by
  unfold re_Z is_Z at heq
  split at heq
  · rename_i hz
    cases heq
    have hlocks := hc.k
    simp only [Bool.or_eq_true, decide_eq_true_eq] at hz
    exact xw_mono (fun t => xw_end hce.1 hce.2) (W.zret hc.x hc.b hc.r (by rcases hz with rfl | rfl <;> rfl) (fun t ht _ => ⟨rfl, by rw [ht]; exact hR⟩) hL hdg)
  · cases heq
theorem x_lret {v : Int64} (hc : Cx_t p s m meth c s0 A0 l G y cc nL (some .long) hh) (hR : Rp_h G s0.heap h H) (hL : Lo_k s0 locs) (hce : cells ≤ R.cells ∧ slots ≤ R.slots) (heq : re_L v h = some r) (hdg : decode cc pc = .ok (.lreturn, 1)) : W p l e R s m args below meth c H locs cells slots (xq_MQ G s0 below r s R.cells R.slots) (F0 m pc ls [.long v]) := by
  cases heq
  have hlocks := hc.k
  exact xw_mono (fun t => xw_end hce.1 hce.2) (W.lret hc.x hc.b hc.r (fun t ht _ => ⟨rfl, by rw [ht]; exact hR⟩) hL hdg)
theorem x_aret {v : Nat} {C : String} (hc : Cx_t p s m meth c s0 A0 l G y cc nL (some (.object C)) hh) (hR : Rp_h G s0.heap h H) (hL : Lo_k s0 locs) (hce : cells ≤ R.cells ∧ slots ≤ R.slots) (heq : re_A v h = some r) (hdg : decode cc pc = .ok (.areturn, 1)) : W p l e R s m args below meth c H locs cells slots (xq_MQ G s0 below r s R.cells R.slots) (F0 m pc ls [.ref v]) := by
  cases heq
  have hlocks := hc.k
  exact xw_mono (fun t => xw_end hce.1 hce.2) (W.aret hc.x hc.b hc.r (Or.inl ⟨_, rfl⟩) (Or.inr ⟨_, rfl⟩) (fun t ht _ => ⟨rfl, by rw [ht]; exact hR⟩) hL hdg)
theorem x_vret (hc : Cx_t p s m meth c s0 A0 l G y cc nL none hh) (hR : Rp_h G s0.heap h H) (hL : Lo_k s0 locs) (hce : cells ≤ R.cells ∧ slots ≤ R.slots) (heq : re_V h = some r) (hdg : decode cc pc = .ok (.return_, 1)) : W p l e R s m args below meth c H locs cells slots (xq_MQ G s0 below r s R.cells R.slots) (F0 m pc ls []) := by
  cases heq
  have hlocks := hc.k
  exact xw_mono (fun t => xw_end hce.1 hce.2) (W.vret hc.x hc.b hc.r (fun t ht _ => ⟨rfl, by rw [ht]; exact hR⟩) hL hdg)
theorem x_athrow {v : Nat} (hc : Cx_t p s m meth c s0 A0 l G y cc nL ret []) (hR : Rp_h G s0.heap h H) (hL : Lo_k s0 locs) (hce : cells ≤ R.cells ∧ slots ≤ R.slots) (heq : re_T v h = some r) (hdg : decode cc pc = .ok (.athrow, 1)) : W p l e R s m args below meth c H locs cells slots (xq_MQ G s0 below r s R.cells R.slots) (F0 m pc ls (.ref v :: st)) := by
  cases heq
  intro T hT X
  have hlocks := hc.k
  obtain ⟨q1, q2, q3, q4, q5⟩ := X.athrowLeaves hc.x (g := F0 m pc ls (.ref v :: st)) rfl rfl rfl (hc.off pc) rfl (by rw [hc.b]; exact hdg) (hlocks := hlocks)
  exact ⟨_, q1, _, q2, q3, ⟨rfl, by show Rp_h G s0.heap h T.heap; rw [hT]; exact hR⟩, locs, ⟨q4, q5.mono hce.1 hce.2⟩, hL⟩
/-- where the field k of the classes ts is named by a class file's entry -/
def fl_Ok (own : String) (index : Nat) (ref nm ds dc : String) (ts : List Nat) (k : Nat) (fin : Bool) (ty : FieldType) : Prop :=
  ex_W (.fieldLink own index ref nm ds) ∧ parseFieldDescriptor ds = some ty ∧ (dc = ref ∨ ex_W (.sameField ref dc nm ds)) ∧ ∀ t ∈ ts, ∃ (C : String) (T : u_T) (N : Nat), cl_L[t]? = some (C, T, N) ∧ k < N ∧ T k = (dc, nm, ds, fin)
theorem fd_V_spec {ts : List Nat} {k : Nat} {v : Value} (hv : fd_V ts k h a = some v) : ∃ (t : Nat) (fs : List Value), h.2 a = some (.inl (t, fs)) ∧ t ∈ ts ∧ fs[k]? = some v := by
  unfold fd_V at hv
  split at hv
  · rename_i t fs hq
    split at hv
    · rename_i ht
      exact ⟨t, fs, hq, by simpa using ht, hv⟩
    · cases hv
  · cases hv
theorem x_gV {ref nm ds dc : String} {index k : Nat} {ts : List Nat} {fin : Bool} {ty : FieldType} {v : Value} (hc : Cx_t p s m meth c s0 A0 l G y cc nL ret hh) (hR : Rp_h G s0.heap h H) (hF : fl_Ok y.cls index ref nm ds dc ts k fin ty) (hv : fd_V ts k h a = some v) (hdg : decode cc pc = .ok (.getfield index, 3))
    (kk : W p l e R s m args below meth c H locs cells slots Q (F0 m (pc + 3) ls (v :: st))) : W p l e R s m args below meth c H locs cells slots Q (F0 m pc ls (.ref a :: st)) := by
  obtain ⟨t, fs, h1, h2, h3⟩ := fd_V_spec hv
  obtain ⟨C, T, N, e1, e2, e3⟩ := hF.2.2.2 t h2
  have e4 := hF.2.2.1
  have hin := cl_in t C T N e1
  have hlink : (Cond.fieldLink y.cls index ref (T k).2.1 (T k).2.2.1).before args s = true := by rw [e3]; exact hc.w hF.1
  refine va_get (Ts := u_ws C T N) hc.x hc.b (fun w hw => hc.w (hin w hw)) (fun w hw => hw) hc.o hc.K (hR.at1 h1) 0 rfl e1 k e2 hlink (fun x hx => ?_) h3 hdg kk
  rw [e3] at hx ⊢
  rcases e4 with rfl | e4
  · exact hx
  · exact u_same (hc.w (args := args) e4) x hx
theorem x_gI {ref nm ds dc : String} {index k : Nat} {ts : List Nat} {fin : Bool} {ty : FieldType} {rest : Int32 → Rs_t} (hc : Cx_t p s m meth c s0 A0 l G y cc nL ret hh) (hR : Rp_h G s0.heap h H) (hF : fl_Ok y.cls index ref nm ds dc ts k fin ty) (heq : (fd_I ts k h a).bind rest = some r) (hdg : decode cc pc = .ok (.getfield index, 3))
    (kk : ∀ v : Int32, rest v = some r → W p l e R s m args below meth c H locs cells slots Q (F0 m (pc + 3) ls (.int v :: st))) : W p l e R s m args below meth c H locs cells slots Q (F0 m pc ls (.ref a :: st)) := by
  cases hv : fd_V ts k h a with
  | none => simp [fd_I, hv] at heq
  | some v =>
    cases v with
    | int x =>
      simp only [fd_I, hv, Option.bind_some] at heq
      exact x_gV hc hR hF hv hdg (kk x heq)
    | _ => simp [fd_I, hv] at heq
theorem x_gA {ref nm ds dc : String} {index k : Nat} {ts : List Nat} {fin : Bool} {ty : FieldType} {rest : Nat → Rs_t} (hc : Cx_t p s m meth c s0 A0 l G y cc nL ret hh) (hR : Rp_h G s0.heap h H) (hF : fl_Ok y.cls index ref nm ds dc ts k fin ty) (heq : (fd_A ts k h a).bind rest = some r) (hdg : decode cc pc = .ok (.getfield index, 3))
    (kk : ∀ v : Nat, rest v = some r → W p l e R s m args below meth c H locs cells slots Q (F0 m (pc + 3) ls (.ref v :: st))) : W p l e R s m args below meth c H locs cells slots Q (F0 m pc ls (.ref a :: st)) := by
  cases hv : fd_V ts k h a with
  | none => simp [fd_A, hv] at heq
  | some v =>
    cases v with
    | ref x =>
      simp only [fd_A, hv, Option.bind_some] at heq
      exact x_gV hc hR hF hv hdg (kk x heq)
    | _ => simp [fd_A, hv] at heq
theorem pt_V_spec {ts : List Nat} {k : Nat} {v : Value} {h1 : Hs_t} (hv : pt_V ts k h a v = some h1) : ∃ (t : Nat) (fs : List Value), h.2 a = some (.inl (t, fs)) ∧ t ∈ ts ∧ k < fs.length ∧ h1 = hp_S h a (ce_O t (fs.set k v)) := by
  unfold pt_V at hv
  split at hv
  · rename_i t fs hq
    split at hv
    · rename_i ht
      simp only [Bool.and_eq_true, decide_eq_true_eq] at ht
      exact ⟨t, fs, hq, by simpa using ht.1, ht.2, (Option.some.inj hv).symm⟩
    · cases hv
  · cases hv
theorem lo_put {i : Nat} (hL : Lo_k s0 locs) (ha : s0.heap.size ≤ a) : Lo_k s0 (locs ++ [⟨a, i⟩]) := by
  intro q hq
  rcases List.mem_append.mp hq with h | h
  · exact hL q h
  · rw [List.mem_singleton.mp h]
    exact ha
theorem x_pV {ref nm ds dc : String} {index k : Nat} {ts : List Nat} {fin : Bool} {ty : FieldType} {v : Value} {rest : Hs_t → Rs_t} (hc : Cx_t p s m meth c s0 A0 l G y cc nL ret hh) (hR : Rp_h G s0.heap h H) (hL : Lo_k s0 locs) (hF : fl_Ok y.cls index ref nm ds dc ts k fin ty) (hfin : fin = false ∨ (y.name = "<init>" ∧ dc = y.cls))
    (hn : narrow ty v = v) (hfit : fits ty v = true) (heq : (pt_V ts k h a v).bind rest = some r) (hdg : decode cc pc = .ok (.putfield index, 3))
    (kk : ∀ (h1 : Hs_t) (H1 : Heap) (locs1 : List Loc), Rp_h G s0.heap h1 H1 → Lo_k s0 locs1 → rest h1 = some r → W p l e R s m args below meth c H1 locs1 cells slots Q (F0 m (pc + 3) ls st)) : W p l e R s m args below meth c H locs cells slots Q (F0 m pc ls (v :: .ref a :: st)) := by
  cases hv : pt_V ts k h a v with
  | none => simp [hv] at heq
  | some h1 =>
    simp only [hv, Option.bind_some] at heq
    obtain ⟨t, fs, g1, g2, g3, rfl⟩ := pt_V_spec hv
    obtain ⟨C, T, N, e1, e2, e3⟩ := hF.2.2.2 t g2
    have e4 := hF.2.2.1
    have hinw := cl_in t C T N e1
    have hts : ∀ w ∈ u_ws C T N, w.before args s = true := fun w hw => hc.w (hinw w hw)
    obtain ⟨ty0, hty⟩ := cl_ty t C T N e1
    have hnm := cl_nm t C T N e1
    have hK := hc.K
    have hap := va_apart (own := y.cls) hts (fun w hw => hw) ty0 hty hnm hK e1
    obtain ⟨hbase, hat⟩ := hR.2.2.2 a _ g1
    obtain ⟨rr, h1', cell, q1, q2, q3, q4⟩ := hat
    have hr : rr = (C, T, N) := Option.some.inj (h1'.symm.trans e1)
    subst hr
    obtain ⟨hS, hfc, kC, hkC, hkind⟩ := hK.1 t _ e1
    obtain ⟨cf, kf, fi, f, hi, hsl⟩ := hS k e2
    have hlays := u_lays hts (fun w hw => hw) e2
    have hst := (u_facts hfc hkC hlays hi).1
    have hd : parseFieldDescriptor (T k).2.2.1 = some ty := by rw [e3]; exact hF.2.1
    have hsame : s.fieldFound? ref nm ds = some (cf, kf, fi, f) := by
      have hi : s.fieldFound? (T k).1 (T k).2.1 (T k).2.2.1 = some (cf, kf, fi, f) := hi
      rw [e3] at hi
      rcases e4 with rfl | e4
      · exact hi
      · exact u_same (hc.w (args := args) e4) _ hi
    have hlink : (Cond.fieldLink y.cls index ref nm ds).before args s = true := hc.w hF.1
    have fin' : ∀ (H' : Heap), H'[a]? = some (cell.setSlot f.slot v) → H'.size = H.size → (∀ q, q ≠ a → H'[q]? = H[q]?) → Rp_h G s0.heap (hp_S h a (ce_O t (fs.set k v))) H' := by
      intro H' w1 w2 w3
      rw [hsl] at w1
      exact hR.set g1 ⟨_, e1, t_OB.to (V := updV (vp_V fs) k v) ⟨_, w1, q2, q3, t_set q4 hap e2 v⟩ (fun j _ => vp_updV_set g3 v j)⟩ w2 w3
    have hlt : f.slot < cell.slots.size := by rw [hsl]; exact k2_hasslot (q4 k e2)
    have hlay := hts _ (u_in_lay e2)
    unfold u_lay at hlay
    cases hfv : fin with
    | false =>
      rw [if_neg (by rw [e3, hfv]; exact Bool.false_ne_true)] at hlay
      have h6 := u_store hfc hkC hkind hlay hi hd hn hfit
      exact W.putK hc.x hc.b (f := f) ⟨hc.o, hlink, ⟨_, _, _, hsame⟩, hst⟩ (by rw [q2]; exact h6) q1 q3 hlt rfl rfl hdg fun H' w1 w2 w3 => kk _ H' _ (fin' H' w1 w2 w3) (lo_put hL hbase) heq
    | true =>
      rw [if_pos (by rw [e3, hfv])] at hlay
      rcases hfin with hfin | ⟨hin2, hdco⟩
      · rw [hfv] at hfin; cases hfin
      have hcf : m.cls = cf := by
        obtain ⟨_, _, c', _, _, _, -, -, hf', -, -, -, hown2, -⟩ := Cond.laysFinal_spec hlay
        have e1' : c' = cf := by have := hi.symm.trans hf'; simp at this; exact this.1.symm
        have hdc : (T k).1 = y.cls := by rw [e3]; exact hdco
        rw [hdc] at hown2
        rw [← e1']; exact Option.some.inj (hc.o.symm.trans hown2)
      have h6 := u_fits hfc hkC hkind (Or.inr hlay) hi hd hn hfit
      exact W.putFinK hc.x hc.b hc.o hlink hsame hst hcf (hc.n.trans hin2) (by rw [q2]; exact h6) q1 q3 hlt rfl rfl hdg fun H' w1 w2 w3 => kk _ H' _ (fin' H' w1 w2 w3) (lo_put hL hbase) heq
theorem x_pZ {ref nm ds dc : String} {index k : Nat} {ts : List Nat} {fin : Bool} {v : Int32} {rest : Hs_t → Rs_t} (hc : Cx_t p s m meth c s0 A0 l G y cc nL ret hh) (hR : Rp_h G s0.heap h H) (hL : Lo_k s0 locs) (hF : fl_Ok y.cls index ref nm ds dc ts k fin .boolean) (hfin : fin = false ∨ (y.name = "<init>" ∧ dc = y.cls))
    (heq : (pt_Z ts k h a v).bind rest = some r) (hdg : decode cc pc = .ok (.putfield index, 3))
    (kk : ∀ (h1 : Hs_t) (H1 : Heap) (locs1 : List Loc), Rp_h G s0.heap h1 H1 → Lo_k s0 locs1 → rest h1 = some r → W p l e R s m args below meth c H1 locs1 cells slots Q (F0 m (pc + 3) ls st)) : W p l e R s m args below meth c H locs cells slots Q (F0 m pc ls (.int v :: .ref a :: st)) := by
  unfold pt_Z is_Z at heq
  split at heq
  · rename_i hz
    simp only [Bool.or_eq_true, decide_eq_true_eq] at hz
    exact x_pV hc hR hL hF hfin (by rcases hz with rfl | rfl <;> rfl) (by rcases hz with rfl | rfl <;> rfl) heq hdg kk
  · cases heq
theorem x_aI {i : Int32} {rest : Int32 → Rs_t} (hc : Cx_t p s m meth c s0 A0 l G y cc nL ret hh) (hR : Rp_h G s0.heap h H) (heq : (ar_I h a i).bind rest = some r) (hdg : decode cc pc = .ok (.iaload, 1))
    (kk : ∀ v : Int32, rest v = some r → W p l e R s m args below meth c H locs cells slots Q (F0 m (pc + 1) ls (.int v :: st))) : W p l e R s m args below meth c H locs cells slots Q (F0 m pc ls (.int i :: .ref a :: st)) := by
  unfold ar_I at heq
  split at heq
  · rename_i n f ha
    split at heq
    · rename_i hi
      exact va_iald (t0 := 0) hc.x hc.b hc.K (hR.at1 ha) 0 rfl rfl (in_R_in hi) hdg (kk _ heq)
    · cases heq
  · cases heq
theorem x_aZ {i : Int32} {rest : Int32 → Rs_t} (hc : Cx_t p s m meth c s0 A0 l G y cc nL ret hh) (hR : Rp_h G s0.heap h H) (heq : (ar_Z h a i).bind rest = some r) (hdg : decode cc pc = .ok (.baload, 1))
    (kk : ∀ v : Int32, rest v = some r → W p l e R s m args below meth c H locs cells slots Q (F0 m (pc + 1) ls (.int v :: st))) : W p l e R s m args below meth c H locs cells slots Q (F0 m pc ls (.int i :: .ref a :: st)) := by
  unfold ar_Z at heq
  split at heq
  · rename_i n f ha
    split at heq
    · rename_i hi
      exact va_zald (t0 := 1) hc.x hc.b hc.K (hR.at1 ha) 0 rfl rfl (in_R_in hi) hdg (kk _ heq)
    · cases heq
  · cases heq
theorem x_aL {i : Int32} {rest : Int64 → Rs_t} (hc : Cx_t p s m meth c s0 A0 l G y cc nL ret hh) (hR : Rp_h G s0.heap h H) (heq : (ar_L h a i).bind rest = some r) (hdg : decode cc pc = .ok (.laload, 1))
    (kk : ∀ v : Int64, rest v = some r → W p l e R s m args below meth c H locs cells slots Q (F0 m (pc + 1) ls (.long v :: st))) : W p l e R s m args below meth c H locs cells slots Q (F0 m pc ls (.int i :: .ref a :: st)) := by
  unfold ar_L at heq
  split at heq
  · rename_i n f ha
    split at heq
    · rename_i hi
      exact va_lald (t0 := 2) hc.x hc.b hc.K (hR.at1 ha) 0 rfl rfl (in_R_in hi) hdg (kk _ heq)
    · cases heq
  · cases heq
theorem x_aR {i : Int32} {rest : Option Nat → Rs_t} (hc : Cx_t p s m meth c s0 A0 l G y cc nL ret hh) (hR : Rp_h G s0.heap h H) (heq : (ar_R h a i).bind rest = some r) (hdg : decode cc pc = .ok (.aaload, 1))
    (kn : rest none = some r → W p l e R s m args below meth c H locs cells slots Q (F0 m (pc + 1) ls (.null :: st)))
    (kk : ∀ v : Nat, rest (some v) = some r → W p l e R s m args below meth c H locs cells slots Q (F0 m (pc + 1) ls (.ref v :: st))) : W p l e R s m args below meth c H locs cells slots Q (F0 m pc ls (.int i :: .ref a :: st)) := by
  unfold ar_R at heq
  split at heq
  · rename_i n f ha
    split at heq
    · rename_i hi
      refine va_aldq (t0 := 3) hc.x hc.b hc.K (hR.at1 ha) 0 rfl rfl (in_R_in hi) hdg ?_
      simp only [Option.bind_some] at heq
      cases hf : f i.toNatClampNeg with
      | none => exact kn (by rw [← hf]; exact heq)
      | some v => exact kk v (by rw [← hf]; exact heq)
    · cases heq
  · cases heq
theorem x_len {rest : Int32 → Rs_t} (hc : Cx_t p s m meth c s0 A0 l G y cc nL ret hh) (hR : Rp_h G s0.heap h H) (heq : (ln_A h a).bind rest = some r) (hdg : decode cc pc = .ok (.arraylength, 1))
    (kk : ∀ v : Int32, rest v = some r → W p l e R s m args below meth c H locs cells slots Q (F0 m (pc + 1) ls (.int v :: st))) : W p l e R s m args below meth c H locs cells slots Q (F0 m pc ls (.ref a :: st)) := by
  unfold ln_A at heq
  split at heq
  · rename_i n f ha
    exact va_alen (t0 := 0) hc.x hc.b hc.K (hR.at1 ha) 0 rfl rfl rfl hdg (kk _ heq)
  · rename_i n f ha
    exact va_alen (t0 := 1) hc.x hc.b hc.K (hR.at1 ha) 0 rfl rfl rfl hdg (kk _ heq)
  · rename_i n f ha
    exact va_alen (t0 := 2) hc.x hc.b hc.K (hR.at1 ha) 0 rfl rfl rfl hdg (kk _ heq)
  · rename_i n f ha
    exact va_alen (t0 := 3) hc.x hc.b hc.K (hR.at1 ha) 0 rfl rfl rfl hdg (kk _ heq)
  · cases heq
theorem x_sI {i x : Int32} {rest : Hs_t → Rs_t} (hc : Cx_t p s m meth c s0 A0 l G y cc nL ret hh) (hR : Rp_h G s0.heap h H) (hL : Lo_k s0 locs) (heq : (as_I h a i x).bind rest = some r) (hdg : decode cc pc = .ok (.iastore, 1))
    (kk : ∀ (h1 : Hs_t) (H1 : Heap) (locs1 : List Loc), Rp_h G s0.heap h1 H1 → Lo_k s0 locs1 → rest h1 = some r → W p l e R s m args below meth c H1 locs1 cells slots Q (F0 m (pc + 1) ls st)) : W p l e R s m args below meth c H locs cells slots Q (F0 m pc ls (.int x :: .int i :: .ref a :: st)) := by
  unfold as_I at heq
  split at heq
  · rename_i n f ha
    split at heq
    · rename_i hi
      have hin := in_R_in hi
      obtain ⟨hb, hat⟩ := hR.2.2.2 a _ ha
      refine W.iast hc.x hc.b hat ((hc.K.2 0 _ rfl).1 n (fun j => .int (f j))) (fun q => by cases q) (by show ¬ (i < 0 ∨ (arrV _ _ _).slots.size ≤ _); rw [arrV_size]; exact hin) rfl rfl hdg fun H1 e z oq => ?_
      refine kk _ H1 _ (hR.set ha ?_ z oq) (lo_put hL hb) heq
      show H1[a]? = some (vp_cell _ _)
      rw [e]
      show some ((vp_cell _ _).setSlot _ _) = _
      rw [vp_cell_i, vp_cell_i, arrV_store]
      congr 2
      funext q
      by_cases hq : q = i.toNatClampNeg
      · subst hq
        simp [updV, upd]
      · simp [updV, upd, hq]
    · cases heq
  · cases heq
theorem x_sZ {i x : Int32} {rest : Hs_t → Rs_t} (hc : Cx_t p s m meth c s0 A0 l G y cc nL ret hh) (hR : Rp_h G s0.heap h H) (hL : Lo_k s0 locs) (heq : (as_Z h a i x).bind rest = some r) (hdg : decode cc pc = .ok (.bastore, 1))
    (kk : ∀ (h1 : Hs_t) (H1 : Heap) (locs1 : List Loc), Rp_h G s0.heap h1 H1 → Lo_k s0 locs1 → rest h1 = some r → W p l e R s m args below meth c H1 locs1 cells slots Q (F0 m (pc + 1) ls st)) : W p l e R s m args below meth c H locs cells slots Q (F0 m pc ls (.int x :: .int i :: .ref a :: st)) := by
  unfold as_Z at heq
  split at heq
  · rename_i n f ha
    split at heq
    · rename_i hi
      simp only [Bool.and_eq_true, is_Z, Bool.or_eq_true, decide_eq_true_eq] at hi
      obtain ⟨hi, hz⟩ := hi
      have hin := in_R_in hi
      obtain ⟨hb, hat⟩ := hR.2.2.2 a _ ha
      refine W.zast hc.x hc.b hat ((hc.K.2 1 _ rfl).1 n (fun j => .int (f j))) (fun q => by cases q) (by show ¬ (i < 0 ∨ (arrV _ _ _).slots.size ≤ _); rw [arrV_size]; exact hin) rfl rfl hdg fun H1 e z oq => ?_
      refine kk _ H1 _ (hR.set ha ?_ z oq) (lo_put hL hb) heq
      show H1[a]? = some (vp_cell _ _)
      rw [e]
      show some ((vp_cell _ _).setSlot _ _) = _
      rw [vp_cell_i, vp_cell_i, arrV_store]
      congr 2
      funext q
      have hx : narrow .boolean (.int x) = .int x := by rcases hz with rfl | rfl <;> rfl
      by_cases hq : q = i.toNatClampNeg
      · subst hq
        simp [updV, upd, hx]
      · simp [updV, upd, hq]
    · cases heq
  · cases heq
theorem x_sL {i : Int32} {x : Int64} {rest : Hs_t → Rs_t} (hc : Cx_t p s m meth c s0 A0 l G y cc nL ret hh) (hR : Rp_h G s0.heap h H) (hL : Lo_k s0 locs) (heq : (as_L h a i x).bind rest = some r) (hdg : decode cc pc = .ok (.lastore, 1))
    (kk : ∀ (h1 : Hs_t) (H1 : Heap) (locs1 : List Loc), Rp_h G s0.heap h1 H1 → Lo_k s0 locs1 → rest h1 = some r → W p l e R s m args below meth c H1 locs1 cells slots Q (F0 m (pc + 1) ls st)) : W p l e R s m args below meth c H locs cells slots Q (F0 m pc ls (.long x :: .int i :: .ref a :: st)) := by
  unfold as_L at heq
  split at heq
  · rename_i n f ha
    split at heq
    · rename_i hi
      have hin := in_R_in hi
      obtain ⟨hb, hat⟩ := hR.2.2.2 a _ ha
      refine W.last hc.x hc.b hat ((hc.K.2 2 _ rfl).1 n (fun j => .long (f j))) (fun q => by cases q) (by show ¬ (i < 0 ∨ (arrV _ _ _).slots.size ≤ _); rw [arrV_size]; exact hin) rfl rfl hdg fun H1 e z oq => ?_
      refine kk _ H1 _ (hR.set ha ?_ z oq) (lo_put hL hb) heq
      show H1[a]? = some (vp_cell _ _)
      rw [e]
      show some ((vp_cell _ _).setSlot _ _) = _
      rw [vp_cell_l, vp_cell_l, arrV_store]
      congr 2
      funext q
      by_cases hq : q = i.toNatClampNeg
      · subst hq
        simp [updV, vp_updL]
      · simp [updV, vp_updL, hq]
    · cases heq
  · cases heq
def tg_Ok (nm : String) (ts : List Nat) : Prop := ∀ t ∈ ts, ∃ (C : String) (T : u_T) (N : Nat), cl_L[t]? = some (C, T, N) ∧ ex_W (.castable C nm)
theorem tg_O_spec {t : Nat} (ht : tg_O h a = some t) : ∃ fs : List Value, h.2 a = some (.inl (t, fs)) := by
  unfold tg_O at ht
  split at ht
  · rename_i t' fs hq
    cases ht
    exact ⟨fs, hq⟩
  · cases ht
/-- an object's cell, by its class's number -/
theorem Rp_h.recv {t : Nat} {fs : List Value} {C : String} {T : u_T} {N : Nat} (hc : Cx_t p s m meth c s0 A0 l G y cc nL ret hh) (hR : Rp_h G s0.heap h H) (ha : h.2 a = some (.inl (t, fs))) (e1 : cl_L[t]? = some (C, T, N)) : ∃ cell : Cell, H[a]? = some cell ∧ cell.vm.isStatics = false ∧ s.vm.findClass C = some cell.cls :=
  va_recv (q0 := 0) hc.K (hR.at1 ha) e1 rfl
theorem x_sR {i : Int32} {x : Nat} {ts : List Nat} {rest : Hs_t → Rs_t} (hc : Cx_t p s m meth c s0 A0 l G y cc nL ret hh) (hR : Rp_h G s0.heap h H) (hL : Lo_k s0 locs) (hT : tg_Ok ex_El ts) (heq : (as_R ts h a i x).bind rest = some r) (hdg : decode cc pc = .ok (.aastore, 1))
    (kk : ∀ (h1 : Hs_t) (H1 : Heap) (locs1 : List Loc), Rp_h G s0.heap h1 H1 → Lo_k s0 locs1 → rest h1 = some r → W p l e R s m args below meth c H1 locs1 cells slots Q (F0 m (pc + 1) ls st)) : W p l e R s m args below meth c H locs cells slots Q (F0 m pc ls (.ref x :: .int i :: .ref a :: st)) := by
  unfold as_R at heq
  split at heq
  · rename_i n f ha
    cases htg : tg_O h x with
    | none => simp [htg] at heq
    | some t =>
      simp only [htg] at heq
      split at heq
      · rename_i hi
        simp only [Bool.and_eq_true] at hi
        obtain ⟨hi, hz⟩ := hi
        obtain ⟨fs, hx⟩ := tg_O_spec htg
        obtain ⟨C, T, N, e1, e2⟩ := hT t (by simpa using hz)
        have hin := in_R_in hi
        have hlt : i.toNatClampNeg < n := Nat.not_le.mp fun q => hin (Or.inr q)
        have h0 : ¬ i < 0 := fun q => hin (Or.inl q)
        obtain ⟨hb, hat⟩ := hR.2.2.2 a _ ha
        obtain ⟨cellV, g1, g2, g3⟩ := hR.recv hc hx e1
        obtain ⟨c0, t0, f1, f2, f3⟩ := Cond.castable_spec (hc.w (args := args) e2)
        cases g3.symm.trans f1
        obtain ⟨kA, comp, k1, k2, k3, -⟩ := (hc.K.2 3 _ rfl).2
        cases k3.symm.trans f2
        obtain ⟨kV, hkV, -⟩ := Vm.findClass_spec g3
        obtain ⟨kC, hkC, -⟩ := Vm.findClass_spec f2
        refine W.aast hc.x hc.b hat (fun q h => by cases h) (fun h => by cases h) k1 k2 rfl hkC ⟨h0, by show _ < (arrV _ _ _).slots.size; rw [arrV_size]; exact hlt⟩ g1 (fun q h => by rw [h] at g2; cases g2) hkV f3 rfl rfl hdg fun H1 e z oq => ?_
        refine kk _ H1 _ (hR.set ha ?_ z oq) (lo_put hL hb) heq
        show H1[a]? = some (vp_cell _ _)
        rw [e]
        show some ((vp_cell _ _).setSlot _ _) = _
        rw [vp_cell_q, vp_cell_q, arrV_store]
        congr 2
        funext q
        by_cases hq : q = i.toNatClampNeg
        · subst hq
          simp [updV, va_up, va_rf]
        · simp [updV, va_up, hq]
      · cases heq
  · cases heq
theorem x_cpI {b : Nat} {sp dp n : Int32} {index : Nat} {rest : Hs_t → Rs_t} (hc : Cx_t p s m meth c s0 A0 l G y cc nL ret hh) (hR : Rp_h G s0.heap h H) (hL : Lo_k s0 locs) (hml : ls.size = nL) (w1 : ex_W (.methodLink y.cls index arraycopyName)) (w2 : ex_W (.native arraycopyName)) (w3 : ex_W (.static arraycopyName)) (w4 : ex_W (.initialized "java/lang/System"))
    (hframes : 1 ≤ R.frames) (hlocals : (st.map fun v => v.category).sum + (nativeFrameWords "java/lang/System" "arraycopy" 5 + 11) ≤ R.locals) (heq : (cp_I h a sp b dp n).bind rest = some r) (hdg : decode cc pc = .ok (.invokestatic index, 3))
    (kk : ∀ (h1 : Hs_t) (H1 : Heap) (locs1 : List Loc), Rp_h G s0.heap h1 H1 → Lo_k s0 locs1 → rest h1 = some r → W p l e R s m args below meth c H1 locs1 cells slots Q (F0 m (pc + 3) ls st)) : W p l e R s m args below meth c H locs cells slots Q (F0 m pc ls (.int n :: .int dp :: .ref b :: .int sp :: .ref a :: st)) := by
  unfold cp_I at heq
  split at heq
  · rename_i n0 f n1 g ha hb
    split at heq
    · rename_i hi
      simp only [Bool.and_eq_true, Bool.not_eq_true', decide_eq_false_iff_not, decide_eq_true_eq] at hi
      obtain ⟨⟨⟨⟨h1, h2⟩, h3⟩, h4⟩, h5⟩ := hi
      obtain ⟨hbb, hat1⟩ := hR.2.2.2 b _ hb
      obtain ⟨hba, hat0⟩ := hR.2.2.2 a _ ha
      intro T hT X
      have hc0 : H[a]? = some (vp_cell G.2.1 (n0, .inl f)) := hat0
      have hc1 : H[b]? = some (vp_cell G.2.1 (n1, .inl g)) := hat1
      obtain ⟨-, k0, hk0, cm0, hkk0⟩ := (hc.K.2 0 _ rfl).1 n0 (fun j => .int (f j))
      obtain ⟨-, k1, hk1, cm1, hkk1⟩ := (hc.K.2 0 _ rfl).1 n1 (fun j => .int (g j))
      have nn : ∀ z : Int32, ¬ z < 0 → z.toInt = (z.toNatClampNeg : Int) := by
        intro z hz
        have hz0 : (0 : Int) ≤ z.toInt := by
          have := Int32.not_lt.mp hz
          simpa using Int32.le_iff_toInt_le.mp this
        show z.toInt = ((z.toInt.toNat : Nat) : Int)
        omega
      obtain ⟨vm', X', step⟩ := X.arraycopy hc.x hc.o (hc.w w1) (hc.w w2) (hc.w w3) (hc.w w4) (src := a) (dst := b) (cs := vp_cell G.2.1 (n0, .inl f)) (cd := vp_cell G.2.1 (n1, .inl g)) (srcPos := sp) (destPos := dp) (n := n) (by rw [hT]; exact hc0) (by rw [hT]; exact hc1)
        (fun _ h => by cases h) (fun _ h => by cases h) (fun h => by cases h) (fun h => by cases h) hk0 hk1 hkk0 hkk1 (by simp [refKind]) h1 h2 h3
        (by rw [nn sp h1, nn n h3]; show ¬ _ > ((arrV G.2.1 n0 (fun j => .int (f j))).slots.size : Int); rw [arrV_size]; omega)
        (by rw [nn dp h2, nn n h3]; show ¬ _ > ((arrV G.2.1 n1 (fun j => .int (g j))).slots.size : Int); rw [arrV_size]; omega)
        (fun vm₁ _ i hi => by
          have e : (vp_cell G.2.1 (n0, .inl f)).slots.getD (sp.toNatClampNeg + i) .null = .int (f (sp.toNatClampNeg + i)) := by
            show (arrV G.2.1 n0 (fun j => .int (f j))).slots.getD _ _ = _
            rw [Array.getD_eq_getD_getElem?, arrV_read _ _ (by omega)]
            rfl
          refine ⟨?_, ?_⟩
          · rw [e]
            rfl
          · rw [e]
            exact trivial)
        (g := F0 m pc ls (.int n :: .int dp :: .ref b :: .int sp :: .ref a :: st)) rfl (by rw [hc.ml]; exact hml) (rest := st) rfl (by rw [hc.b]; exact hdg) hframes (by show 2 * 0 + _ + _ ≤ _; omega)
      have e1 : copied (vp_cell G.2.1 (n0, .inl f)) (vp_cell G.2.1 (n1, .inl g)) sp dp n = vp_cell G.2.1 (n1, .inl (va_cpy f g sp.toNatClampNeg dp.toNatClampNeg n.toNatClampNeg)) := va_copied (fun z => .int z) G.2.1 G.2.1 f g h4
      rw [e1] at X' step
      have hl : b < H.size := (Array.getElem?_eq_some_iff.mp hc1).1
      have hheap : ((T.setVm vm').setCell b (vp_cell G.2.1 (n1, .inl (va_cpy f g sp.toNatClampNeg dp.toNatClampNeg n.toNatClampNeg)))).heap = H.setIfInBounds b (vp_cell G.2.1 (n1, .inl (va_cpy f g sp.toNatClampNeg dp.toNatClampNeg n.toNatClampNeg))) := by rw [← hT]; rfl
      have oq : ∀ q : Nat, q ≠ b → (H.setIfInBounds b (vp_cell G.2.1 (n1, .inl (va_cpy f g sp.toNatClampNeg dp.toNatClampNeg n.toNatClampNeg))))[q]? = H[q]? := fun q hq => by simp [Array.getElem?_setIfInBounds, Ne.symm hq]
      obtain ⟨t, a1, b1⟩ := kk _ _ _ (hR.set hb (c := ce_I n1 (va_cpy f g sp.toNatClampNeg dp.toNatClampNeg n.toNatClampNeg)) (show (H.setIfInBounds b _)[b]? = some _ by simp [Array.getElem?_setIfInBounds, hl]) (by simp) oq) (fun q hq => by
          rcases List.mem_append.mp hq with h | h
          · exact hL q h
          · obtain ⟨z, -, hz⟩ := List.mem_map.mp h
            rw [← hz]
            exact hbb) heq _ hheap X'
      exact ⟨t, step t a1, b1⟩
    · cases heq
  · cases heq
theorem x_min {index : Nat} {x z : Int32} (hc : Cx_t p s m meth c s0 A0 l G y cc nL ret hh) (hml : ls.size = nL) (w1 : ex_W (.methodLink y.cls index Lib.Math.min.name)) (w2 : ex_W (.static Lib.Math.min.name)) (w3 : ex_W (.initialized "java/lang/Math")) (w4 : ex_W (.code Lib.Math.min.name Lib.Math.min.code 2 (some .int)))
    (hframes : 1 ≤ R.frames) (hlocals : (st.map fun v => v.category).sum + 13 ≤ R.locals) (hce : cells ≤ R.cells ∧ slots ≤ R.slots) (hdg : decode cc pc = .ok (.invokestatic index, 3))
    (kk : W p l e R s m args below meth c H locs cells slots Q (F0 m (pc + 3) ls (.int (if z < x then z else x) :: st))) : W p l e R s m args below meth c H locs cells slots Q (F0 m pc ls (.int z :: .int x :: st)) :=
  va_mmin hc.x hc.b (hc.ml.trans hml.symm) hc.o (hc.w w1) (hc.w w2) (hc.w w3) (hc.w w4) hframes hlocals hce.1 hce.2 hdg kk
/-- new: an object of the class number t -/
def nw_Ok (own : String) (index : Nat) (t N : Nat) (fs : List Value) : Prop := ∃ (C : String) (T : u_T) (ty : Nat → FieldType), cl_L[t]? = some (C, T, N) ∧ ex_W (.classLink own index C) ∧ ex_W (.instantiable C N) ∧ ex_W (.initialized C) ∧ (∀ k, k < N → parseFieldDescriptor (T k).2.2.1 = some (ty k)) ∧ ∀ j, j < N → defaultValue (ty j) = vp_V fs j
def nw_O (t : Nat) (fs : List Value) (h : Hs_t) : Option Hs_t := some (hp_N h (ce_O t fs))
theorem x_new {index t N : Nat} {fs : List Value} {rest : Hs_t → Rs_t} (hc : Cx_t p s m meth c s0 A0 l G y cc nL ret hh) (hR : Rp_h G s0.heap h H) (hN : nw_Ok y.cls index t N fs) (hce : cells + 1 ≤ R.cells ∧ slots + N ≤ R.slots) (heq : (nw_O t fs h).bind rest = some r) (hdg : decode cc pc = .ok (.new index, 3))
    (kk : ∀ (h1 : Hs_t) (H1 : Heap), Rp_h G s0.heap h1 H1 → rest h1 = some r → W p l e R s m args below meth c H1 locs (cells + 1) (slots + N) Q (F0 m (pc + 3) ls (.ref h.1 :: st))) : W p l e R s m args below meth c H locs cells slots Q (F0 m pc ls st) := by
  obtain ⟨C, T, ty, e1, w1, w2, w3, hty, hfs⟩ := hN
  have hKn := hc.K.1 t _ e1
  have hinw := cl_in t C T N e1
  have hts : ∀ w ∈ u_ws C T N, w.before args s = true := fun w hw => hc.w (hinw w hw)
  refine W.newcK hc.x hc.b hc.o (hc.w w1) (hc.w w2) (hc.w w3) rfl hdg hce.1 hce.2 hKn.2.1 hR.1 fun H1 kC hkC e1' z1 o1 => ?_
  have hs := hR.1
  refine kk _ H1 (hR.new (c := ce_O t fs) (by omega) (fun q hq => o1 q (by omega)) ?_) heq
  rw [hs]
  exact ⟨_, e1, (u_born ty hts (fun w hw => hw) hKn hkC e1' hty).to hfs⟩
def nw_I (mx : Nat) (n : Int32) (h : Hs_t) : Option Hs_t := if !decide (n < 0) && decide (n.toNatClampNeg ≤ mx) then some (hp_N h (ce_I n.toNatClampNeg (fun _ => 0))) else none
theorem x_newI {n : Int32} {mx : Nat} {rest : Hs_t → Rs_t} (hc : Cx_t p s m meth c s0 A0 l G y cc nL ret hh) (hR : Rp_h G s0.heap h H) (w1 : ex_W (.arrayClass (newarray.typeOf .int))) (hb : mx ≤ 1000) (hce : cells + 1 ≤ R.cells ∧ slots + mx ≤ R.slots) (heq : (nw_I mx n h).bind rest = some r) (hdg : decode cc pc = .ok (.newarray .int, 2))
    (kk : ∀ (h1 : Hs_t) (H1 : Heap), Rp_h G s0.heap h1 H1 → rest h1 = some r → W p l e R s m args below meth c H1 locs (cells + 1) (slots + mx) Q (F0 m (pc + 2) ls (.ref h.1 :: st))) : W p l e R s m args below meth c H locs cells slots Q (F0 m pc ls (.int n :: st)) := by
  unfold nw_I at heq
  split at heq
  · rename_i hi
    simp only [Bool.and_eq_true, Bool.not_eq_true', decide_eq_false_iff_not, decide_eq_true_eq] at hi
    obtain ⟨hn, hm⟩ := hi
    refine va_newaK hc.x hc.b (hc.w w1) rfl hdg rfl hn rfl (by show n.toNatClampNeg * 4 ≤ _; omega) hce.1 (by omega) hR.1 fun H1 cA e1 z1 o1 hAr hNm => ?_
    have hs := hR.1
    have hid : cA = G.2.1 := Option.some.inj (hNm.symm.trans (hc.K.2 0 _ rfl).2)
    subst hid
    refine W.widen (k := cells + 1) (n := slots + mx) (Nat.le_refl _) (by omega) (kk _ H1 (hR.new (c := ce_I n.toNatClampNeg (fun _ => 0)) (by omega) (fun q hq => o1 q (by omega)) ?_) heq)
    rw [hs]
    exact e1
  · cases heq
def nw_Z (mx : Nat) (n : Int32) (h : Hs_t) : Option Hs_t := if !decide (n < 0) && decide (n.toNatClampNeg ≤ mx) then some (hp_N h (ce_Z n.toNatClampNeg (fun _ => 0))) else none
theorem x_newZ {n : Int32} {mx : Nat} {rest : Hs_t → Rs_t} (hc : Cx_t p s m meth c s0 A0 l G y cc nL ret hh) (hR : Rp_h G s0.heap h H) (w1 : ex_W (.arrayClass (newarray.typeOf .boolean))) (hb : mx ≤ 1000) (hce : cells + 1 ≤ R.cells ∧ slots + mx ≤ R.slots) (heq : (nw_Z mx n h).bind rest = some r) (hdg : decode cc pc = .ok (.newarray .boolean, 2))
    (kk : ∀ (h1 : Hs_t) (H1 : Heap), Rp_h G s0.heap h1 H1 → rest h1 = some r → W p l e R s m args below meth c H1 locs (cells + 1) (slots + mx) Q (F0 m (pc + 2) ls (.ref h.1 :: st))) : W p l e R s m args below meth c H locs cells slots Q (F0 m pc ls (.int n :: st)) := by
  unfold nw_Z at heq
  split at heq
  · rename_i hi
    simp only [Bool.and_eq_true, Bool.not_eq_true', decide_eq_false_iff_not, decide_eq_true_eq] at hi
    obtain ⟨hn, hm⟩ := hi
    refine va_newaK hc.x hc.b (hc.w w1) rfl hdg rfl hn rfl (by show n.toNatClampNeg * 1 ≤ _; omega) hce.1 (by omega) hR.1 fun H1 cA e1 z1 o1 hAr hNm => ?_
    have hs := hR.1
    have hid : cA = G.2.2.1 := Option.some.inj (hNm.symm.trans (hc.K.2 1 _ rfl).2)
    subst hid
    refine W.widen (k := cells + 1) (n := slots + mx) (Nat.le_refl _) (by omega) (kk _ H1 (hR.new (c := ce_Z n.toNatClampNeg (fun _ => 0)) (by omega) (fun q hq => o1 q (by omega)) ?_) heq)
    rw [hs]
    exact e1
  · cases heq
def nw_L (mx : Nat) (n : Int32) (h : Hs_t) : Option Hs_t := if !decide (n < 0) && decide (n.toNatClampNeg ≤ mx) then some (hp_N h (ce_L n.toNatClampNeg (fun _ => 0))) else none
theorem x_newL {n : Int32} {mx : Nat} {rest : Hs_t → Rs_t} (hc : Cx_t p s m meth c s0 A0 l G y cc nL ret hh) (hR : Rp_h G s0.heap h H) (w1 : ex_W (.arrayClass (newarray.typeOf .long))) (hb : mx ≤ 1000) (hce : cells + 1 ≤ R.cells ∧ slots + mx ≤ R.slots) (heq : (nw_L mx n h).bind rest = some r) (hdg : decode cc pc = .ok (.newarray .long, 2))
    (kk : ∀ (h1 : Hs_t) (H1 : Heap), Rp_h G s0.heap h1 H1 → rest h1 = some r → W p l e R s m args below meth c H1 locs (cells + 1) (slots + mx) Q (F0 m (pc + 2) ls (.ref h.1 :: st))) : W p l e R s m args below meth c H locs cells slots Q (F0 m pc ls (.int n :: st)) := by
  unfold nw_L at heq
  split at heq
  · rename_i hi
    simp only [Bool.and_eq_true, Bool.not_eq_true', decide_eq_false_iff_not, decide_eq_true_eq] at hi
    obtain ⟨hn, hm⟩ := hi
    refine va_newaK hc.x hc.b (hc.w w1) rfl hdg rfl hn rfl (by show n.toNatClampNeg * 8 ≤ _; omega) hce.1 (by omega) hR.1 fun H1 cA e1 z1 o1 hAr hNm => ?_
    have hs := hR.1
    have hid : cA = G.2.2.2.1 := Option.some.inj (hNm.symm.trans (hc.K.2 2 _ rfl).2)
    subst hid
    refine W.widen (k := cells + 1) (n := slots + mx) (Nat.le_refl _) (by omega) (kk _ H1 (hR.new (c := ce_L n.toNatClampNeg (fun _ => 0)) (by omega) (fun q hq => o1 q (by omega)) ?_) heq)
    rw [hs]
    exact e1
  · cases heq
def nw_R (mx : Nat) (n : Int32) (h : Hs_t) : Option Hs_t := if !decide (n < 0) && decide (n.toNatClampNeg ≤ mx) then some (hp_N h (ce_R n.toNatClampNeg (fun _ => none))) else none
theorem x_newR {n : Int32} {mx index : Nat} {rest : Hs_t → Rs_t} (hc : Cx_t p s m meth c s0 A0 l G y cc nL ret hh) (hR : Rp_h G s0.heap h H) (w1 : ex_W (.classLink y.cls index ex_El)) (w2 : ex_W (.arrayOver (.object ex_El))) (hb : mx ≤ 1000) (hce : cells + 1 ≤ R.cells ∧ slots + mx ≤ R.slots) (heq : (nw_R mx n h).bind rest = some r) (hdg : decode cc pc = .ok (.anewarray index, 3))
    (kk : ∀ (h1 : Hs_t) (H1 : Heap), Rp_h G s0.heap h1 H1 → rest h1 = some r → W p l e R s m args below meth c H1 locs (cells + 1) (slots + mx) Q (F0 m (pc + 3) ls (.ref h.1 :: st))) : W p l e R s m args below meth c H locs cells slots Q (F0 m pc ls (.int n :: st)) := by
  unfold nw_R at heq
  split at heq
  · rename_i hi
    simp only [Bool.and_eq_true, Bool.not_eq_true', decide_eq_false_iff_not, decide_eq_true_eq] at hi
    obtain ⟨hn, hm⟩ := hi
    refine W.anew hc.x hc.b hc.o (hc.w w1) (hc.w w2) rfl hdg rfl hn (by omega) hce.1 (by omega) fun cA kA comp f1 f2 f3 f4 => ?_
    have hs := hR.1
    obtain ⟨kA', comp', k1, k2, k3, k4⟩ := (hc.K.2 3 _ rfl).2
    have hid : cA = G.2.2.2.2 := Option.some.inj (f1.symm.trans k4)
    subst hid
    have hk := kk _ (H.push ({ cls := G.2.2.2.2, slots := Array.replicate n.toNatClampNeg .null, vm := .none } : Cell)) (hR.new (c := ce_R n.toNatClampNeg (fun _ => none)) (by simp) (fun q hq => by rw [Array.getElem?_push, if_neg (Nat.ne_of_lt hq)]) (by
      show (H.push _)[H.size]? = some (vp_cell _ _)
      rw [Array.getElem?_push_size, arrV_new]
      rfl)) heq
    rw [← hs] at hk
    exact W.widen (k := cells + 1) (n := slots + mx) (Nat.le_refl _) (by omega) hk
  · cases heq
theorem x_castY {t index : Nat} {nm : String} {ts : List Nat} {rest : Rs_t} (hc : Cx_t p s m meth c s0 A0 l G y cc nL ret hh) (hR : Rp_h G s0.heap h H) (w1 : ex_W (.classLink y.cls index nm)) (hT : tg_Ok nm ts) (ht : tg_O h a = some t) (hts : t ∈ ts) (hdg : decode cc pc = .ok (.checkcast index, 3))
    (kk : W p l e R s m args below meth c H locs cells slots Q (F0 m (pc + 3) ls (.ref a :: st))) : W p l e R s m args below meth c H locs cells slots Q (F0 m pc ls (.ref a :: st)) := by
  obtain ⟨fs, hx⟩ := tg_O_spec ht
  obtain ⟨C, T, N, e1, e2⟩ := hT t hts
  exact va_castY hc.x hc.b hc.o (hc.w w1) (va_Nw.of rfl (hc.w (args := args) e2)) (hR.recv hc hx e1) hdg kk
/-! Calls. -/
theorem x_core {T : State} {rm : Room} {vs : List Value} {yy : MethodName} {w : Cond} {r0 : Outcome × Hs_t} {mk : MethodId} {methY : Method} {cY : Code} {kY : Class} {mx : Nat} (hM : M_X G s0 l yy w rm vs h r0) (X : Stand p l e R s m args below meth c T locs cells slots) {g : JFrame} (hg : g.method = m) (hsize : g.locals.size = c.maxLocals) {ig : Instr} {len : Nat} (hdg : decode c.code g.pc = .ok (ig, len))
    (hW : 2 * g.monitorRoom + (g.stack.map fun v => v.category).sum ≤ 8) (hn : T.methodNamed? yy = some mk) (hw : w.before vs.toArray T = true) (hmY : T.vm.method? mk = some methY) (hcY : methY.code = some cY) (hlY : cY.maxLocals ≤ mx) (hkY : T.vm.classes[mk.cls]? = some kY) (hini : kY.init = .initialized)
    (hR1 : rm.frames + 1 ≤ R.frames ∧ 8 + (mx + 11) + rm.locals ≤ R.locals) (hf : cells + rm.cells ≤ R.cells ∧ slots + rm.slots ≤ R.slots) (hs0 : s0.WarmedH T.vm) (hRep : Rp_h G s0.heap h T.heap) :
    ∃ (T' : State) (L : List Loc), Stand p l e R s m args below meth c T' (locs ++ L) (cells + rm.cells) (slots + rm.slots) ∧ (∀ q ∈ L, s0.heap.size ≤ q.base) ∧ Rp_h G s0.heap r0.2 T'.heap ∧
      (∀ v, r0.1 = .returned v → Steps p.tables e below (doInvoke e (T.setTop g) [] mk vs.toArray).1 (T'.setTop { g with pc := g.pc + len, stack := v.toList ++ g.stack })) ∧
      (∀ x, r0.1 = .threw x → Steps p.tables e below (doInvoke e (T.setTop g) [] mk vs.toArray).1 ((T'.setTop g).pushFrame (.throwing x))) := by
  have hAt : At T g.method c below := by rw [hg]; exact X.here
  have happ : (headSpec [w] rm).appliesLoose yy e.platform (T.calling g mk vs.toArray) = true :=
    Spec.appliesLoose_calling (g := g) hAt hdg hn hkY hini
      (X.room_calling (g := g) (R' := rm) hsize hmY hcY hR1.1 (by omega) hf.1 hf.2) (atoms_intro fun c hc => by rw [List.mem_singleton.mp hc]; exact hw)
  have hfr : (T.setTop g).frames = [.java g] ++ below := by rw [State.frames_setTop' g hAt.top, X.tail]; rfl
  obtain ⟨o, s₂, hsteps, -, hend, ⟨ho, hRep2⟩, L, hE, hLb⟩ := Steps.callFree hM p X.admits X.cas X.clock (acts := []) hfr happ ⟨rfl, hs0, hRep⟩ trivial
  rw [hfr] at hend
  cases hr0 : r0.1 with
  | returned v =>
    rw [hr0] at ho
    subst ho
    obtain ⟨T', X', -, -, ht⟩ := X.outOf hg hdg hend hE.1 hE.2
    refine ⟨T', L, X', hLb, ?_, fun v' hv => ?_, (fun x hx => by cases hx)⟩
    · rw [ht] at hRep2
      have hh : (T'.setTop { g with pc := g.pc + len, stack := v.toList ++ g.stack }).heap = T'.heap := by simp [State.setTop, State.modifyTopJava]
      rw [hh] at hRep2
      exact hRep2
    · cases hv
      rw [ht] at hsteps
      exact hsteps
  | threw x =>
    rw [hr0] at ho
    subst ho
    obtain ⟨T', X', -, -, ht⟩ := X.outOfThrown hg hend hE.1 hE.2
    refine ⟨T', L, X', hLb, ?_, (fun v' hv => by cases hv), fun x' hx => ?_⟩
    · rw [ht, Stand.throwing_heap] at hRep2
      exact hRep2
    · cases hx
      rw [ht] at hsteps
      exact hsteps
/-- a call, made at the frame g, that leaves 'st' below its arguments: it comes back, or throws, as r0 says -/
def x_Run (G : Gx_t) (s0 : State) (p : Program) (l : Launch) (e : Env) (R : Room) (s : State) (m : MethodId) (args : Array Value) (below : List Frame) (meth : Method) (c : Code) (H : Heap) (locs : List Loc) (cells slots mc ms : Nat) (g : JFrame) (st : List Value) (r0 : Outcome × Hs_t) : Prop :=
  ∀ T : State, T.heap = H → Stand p l e R s m args below meth c T locs cells slots → ∃ (T' : State) (L : List Loc), Stand p l e R s m args below meth c T' (locs ++ L) (cells + mc) (slots + ms) ∧ (∀ q ∈ L, s0.heap.size ≤ q.base) ∧ Rp_h G s0.heap r0.2 T'.heap ∧
    (∀ v, r0.1 = .returned v → ∀ target, Steps p.tables e below (T'.setTop { g with pc := g.pc + 3, stack := v.toList ++ st }) target → Steps p.tables e below (T.setTop g) target) ∧
    (∀ x, r0.1 = .threw x → ∀ target, Steps p.tables e below ((T'.setTop { g with stack := st }).pushFrame (.throwing x)) target → Steps p.tables e below (T.setTop g) target)
theorem lo_app {L : List Loc} (hL : Lo_k s0 locs) (h2 : ∀ q ∈ L, s0.heap.size ≤ q.base) : Lo_k s0 (locs ++ L) := by
  intro q hq
  rcases List.mem_append.mp hq with h | h
  · exact hL q h
  · exact h2 q h
/-- the call threw, and nothing here catches -/
theorem x_out {mc ms : Nat} {st0 : List Value} {x : Nat} {h1 : Hs_t} (hc : Cx_t p s m meth c s0 A0 l G y cc nL ret []) (hL : Lo_k s0 locs) (hf : cells + mc ≤ R.cells ∧ slots + ms ≤ R.slots) (hr : x_Run G s0 p l e R s m args below meth c H locs cells slots mc ms (F0 m pc ls st0) st (.threw x, h1)) (heq : re_T x h1 = some r) :
    W p l e R s m args below meth c H locs cells slots (xq_MQ G s0 below r s R.cells R.slots) (F0 m pc ls st0) := by
  cases heq
  intro T hT X
  obtain ⟨T', L, X', hLb, hRep, -, hth⟩ := hr T hT X
  have hlocks := hc.k
  obtain ⟨q1, q2, q3, q4, q5⟩ := X'.leaveThrown x (g := F0 m pc ls st) rfl rfl rfl (hc.off pc) (hlocks := hlocks)
  exact ⟨_, hth x rfl _ q1, _, q2, q3, ⟨rfl, hRep⟩, _, ⟨q4, q5.mono hf.1 hf.2⟩, lo_app hL hLb⟩
theorem x_bI {mc ms : Nat} {st0 : List Value} {F : Rs_t} {rest : Int32 → Hs_t → Rs_t} (hc : Cx_t p s m meth c s0 A0 l G y cc nL ret []) (hL : Lo_k s0 locs) (heq : bd_I F rest = some r) (hf : cells + mc ≤ R.cells ∧ slots + ms ≤ R.slots) (hr : ∀ r0, F = some r0 → x_Run G s0 p l e R s m args below meth c H locs cells slots mc ms (F0 m pc ls st0) st r0)
    (kk : ∀ (v : Int32) (h1 : Hs_t) (H1 : Heap) (locs1 : List Loc), Rp_h G s0.heap h1 H1 → Lo_k s0 locs1 → rest v h1 = some r → W p l e R s m args below meth c H1 locs1 (cells + mc) (slots + ms) (xq_MQ G s0 below r s R.cells R.slots) (F0 m (pc + 3) ls (.int v :: st))) : W p l e R s m args below meth c H locs cells slots (xq_MQ G s0 below r s R.cells R.slots) (F0 m pc ls st0) := by
  unfold bd_I at heq
  split at heq
  · rename_i _ v h1
    intro T hT X
    obtain ⟨T', L, X', hLb, hRep, hrt, -⟩ := hr _ rfl T hT X
    obtain ⟨t, a1, b1⟩ := kk v h1 T'.heap _ hRep (lo_app hL hLb) heq T' rfl X'
    exact ⟨t, hrt _ rfl t a1, b1⟩
  · rename_i _ x h1
    exact x_out hc hL hf (hr _ rfl) heq
  · cases heq
theorem x_bL {mc ms : Nat} {st0 : List Value} {F : Rs_t} {rest : Int64 → Hs_t → Rs_t} (hc : Cx_t p s m meth c s0 A0 l G y cc nL ret []) (hL : Lo_k s0 locs) (heq : bd_L F rest = some r) (hf : cells + mc ≤ R.cells ∧ slots + ms ≤ R.slots) (hr : ∀ r0, F = some r0 → x_Run G s0 p l e R s m args below meth c H locs cells slots mc ms (F0 m pc ls st0) st r0)
    (kk : ∀ (v : Int64) (h1 : Hs_t) (H1 : Heap) (locs1 : List Loc), Rp_h G s0.heap h1 H1 → Lo_k s0 locs1 → rest v h1 = some r → W p l e R s m args below meth c H1 locs1 (cells + mc) (slots + ms) (xq_MQ G s0 below r s R.cells R.slots) (F0 m (pc + 3) ls (.long v :: st))) : W p l e R s m args below meth c H locs cells slots (xq_MQ G s0 below r s R.cells R.slots) (F0 m pc ls st0) := by
  unfold bd_L at heq
  split at heq
  · rename_i _ v h1
    intro T hT X
    obtain ⟨T', L, X', hLb, hRep, hrt, -⟩ := hr _ rfl T hT X
    obtain ⟨t, a1, b1⟩ := kk v h1 T'.heap _ hRep (lo_app hL hLb) heq T' rfl X'
    exact ⟨t, hrt _ rfl t a1, b1⟩
  · rename_i _ x h1
    exact x_out hc hL hf (hr _ rfl) heq
  · cases heq
theorem x_bA {mc ms : Nat} {st0 : List Value} {F : Rs_t} {rest : Nat → Hs_t → Rs_t} (hc : Cx_t p s m meth c s0 A0 l G y cc nL ret []) (hL : Lo_k s0 locs) (heq : bd_A F rest = some r) (hf : cells + mc ≤ R.cells ∧ slots + ms ≤ R.slots) (hr : ∀ r0, F = some r0 → x_Run G s0 p l e R s m args below meth c H locs cells slots mc ms (F0 m pc ls st0) st r0)
    (kk : ∀ (v : Nat) (h1 : Hs_t) (H1 : Heap) (locs1 : List Loc), Rp_h G s0.heap h1 H1 → Lo_k s0 locs1 → rest v h1 = some r → W p l e R s m args below meth c H1 locs1 (cells + mc) (slots + ms) (xq_MQ G s0 below r s R.cells R.slots) (F0 m (pc + 3) ls (.ref v :: st))) : W p l e R s m args below meth c H locs cells slots (xq_MQ G s0 below r s R.cells R.slots) (F0 m pc ls st0) := by
  unfold bd_A at heq
  split at heq
  · rename_i _ v h1
    intro T hT X
    obtain ⟨T', L, X', hLb, hRep, hrt, -⟩ := hr _ rfl T hT X
    obtain ⟨t, a1, b1⟩ := kk v h1 T'.heap _ hRep (lo_app hL hLb) heq T' rfl X'
    exact ⟨t, hrt _ rfl t a1, b1⟩
  · rename_i _ x h1
    exact x_out hc hL hf (hr _ rfl) heq
  · cases heq
theorem x_bV {mc ms : Nat} {st0 : List Value} {F : Rs_t} {rest : Hs_t → Rs_t} (hc : Cx_t p s m meth c s0 A0 l G y cc nL ret []) (hL : Lo_k s0 locs) (heq : bd_V F rest = some r) (hf : cells + mc ≤ R.cells ∧ slots + ms ≤ R.slots) (hr : ∀ r0, F = some r0 → x_Run G s0 p l e R s m args below meth c H locs cells slots mc ms (F0 m pc ls st0) st r0)
    (kk : ∀ (h1 : Hs_t) (H1 : Heap) (locs1 : List Loc), Rp_h G s0.heap h1 H1 → Lo_k s0 locs1 → rest h1 = some r → W p l e R s m args below meth c H1 locs1 (cells + mc) (slots + ms) (xq_MQ G s0 below r s R.cells R.slots) (F0 m (pc + 3) ls st)) : W p l e R s m args below meth c H locs cells slots (xq_MQ G s0 below r s R.cells R.slots) (F0 m pc ls st0) := by
  unfold bd_V at heq
  split at heq
  · rename_i _ h1
    intro T hT X
    obtain ⟨T', L, X', hLb, hRep, hrt, -⟩ := hr _ rfl T hT X
    obtain ⟨t, a1, b1⟩ := kk h1 T'.heap _ hRep (lo_app hL hLb) heq T' rfl X'
    exact ⟨t, hrt _ rfl t a1, b1⟩
  · rename_i _ x h1
    exact x_out hc hL hf (hr _ rfl) heq
  · cases heq
/-- what the tables say of a method that is called: its code word w, how many locals -/
def md_Ok (yy : MethodName) (w : Cond) (mx : Nat) : Prop := ex_W w ∧ ex_W (.initialized yy.cls) ∧ (yy.cls ≠ "java/lang/invoke/MethodHandle" ∧ yy.cls ≠ "java/lang/invoke/VarHandle") ∧ ((∃ b rt, w = .code yy b mx rt) ∨ ∃ b rt hh, w = .codeWith yy b mx rt hh)
theorem md_Ok.spec {U : State} {yy : MethodName} {w : Cond} {mx : Nat} (hd : md_Ok yy w mx) (hW : s0.WarmedH U.vm) (hG : G_0 l s0 A0 G) : ∃ (mk : MethodId) (methY : Method) (cY : Code) (kY : Class), U.methodNamed? yy = some mk ∧ U.vm.method? mk = some methY ∧ methY.code = some cY ∧ cY.maxLocals = mx ∧ parseMethodDescriptor yy.desc = some methY.sig ∧ U.vm.classes[mk.cls]? = some kY ∧ kY.init = .initialized := by
  obtain ⟨w1, w2, -, hk⟩ := hd
  have h1 : w.before #[] U = true := ex_warm hW w1.2 (hG.1 _ w1.1)
  have h2 : (Cond.initialized yy.cls).before #[] U = true := ex_warm hW w2.2 (hG.1 _ w2.1)
  rcases hk with ⟨b, rt, rfl⟩ | ⟨b, rt, hh, rfl⟩
  · obtain ⟨mk, hnamed⟩ := Cond.code_named h1
    obtain ⟨methM, cM, g1, g2, -, g4, -, -, -, g8⟩ := Cond.code_spec hnamed h1
    obtain ⟨kP, hkP, -⟩ := className_of_methodNamed hnamed
    exact ⟨mk, methM, cM, kP, hnamed, g1, g2, g4, g8, hkP, Cond.initialized_spec (findClass_of_methodNamed hnamed) hkP h2⟩
  · obtain ⟨mk, methM, cM, hnamed, g1, g2, -, g4, -, -, -, g8⟩ := Cond.codeWith_spec h1
    obtain ⟨kP, hkP, -⟩ := className_of_methodNamed hnamed
    exact ⟨mk, methM, cM, kP, hnamed, g1, g2, g4, g8, hkP, Cond.initialized_spec (findClass_of_methodNamed hnamed) hkP h2⟩
/-- from the state behind the linking of a call to the call's end -/
theorem x_inv {T : State} {vm₁ : Vm} {rm : Room} {vs : List Value} {yy : MethodName} {w : Cond} {r0 : Outcome × Hs_t} {mk : MethodId} {mx : Nat} (hc : Cx_t p s m meth c s0 A0 l G y cc nL ret hh) (hM : M_X G s0 l yy w rm vs h r0) (hd : md_Ok yy w mx) (hR : Rp_h G s0.heap h H) (hT : T.heap = H) (X₁ : Stand p l e R s m args below meth c (T.setVm vm₁) locs cells slots) {g : JFrame} (hg : g.method = m) (hsize : g.locals.size = nL) {ig : Instr} (hdg : decode cc g.pc = .ok (ig, 3))
    (hW : 2 * g.monitorRoom + (st.map fun v => v.category).sum ≤ 8) (hn : s.methodNamed? yy = some mk) (hR1 : rm.frames + 1 ≤ R.frames ∧ 8 + (mx + 11) + rm.locals ≤ R.locals) (hf : cells + rm.cells ≤ R.cells ∧ slots + rm.slots ≤ R.slots)
    (hst : ∀ target, (∀ acts, Steps p.tables e below (doInvoke e ((T.setVm vm₁).setTop { g with stack := st }) acts mk vs.toArray).1 target) → Steps p.tables e below (T.setTop g) target) :
    ∃ (T' : State) (L : List Loc), Stand p l e R s m args below meth c T' (locs ++ L) (cells + rm.cells) (slots + rm.slots) ∧ (∀ q ∈ L, s0.heap.size ≤ q.base) ∧ Rp_h G s0.heap r0.2 T'.heap ∧
    (∀ v, r0.1 = .returned v → ∀ target, Steps p.tables e below (T'.setTop { g with pc := g.pc + 3, stack := v.toList ++ st }) target → Steps p.tables e below (T.setTop g) target) ∧
    (∀ x, r0.1 = .threw x → ∀ target, Steps p.tables e below ((T'.setTop { g with stack := st }).pushFrame (.throwing x)) target → Steps p.tables e below (T.setTop g) target) := by
  have hs0 : s0.WarmedH (T.setVm vm₁).vm := State.WarmedH.trans hc.w0 X₁.warmed
  obtain ⟨mk', methY, cY, kY, g1, g2, g3, g4, -, g6, g7⟩ := hd.spec hs0 hc.g
  cases (X₁.named hn).symm.trans g1
  obtain ⟨T', L, X', hLb, hRep, k1, k2⟩ := x_core (g := { g with stack := st }) hM X₁ hg (hsize.trans hc.ml.symm) (by rw [hc.b]; exact hdg) hW g1 (ex_warm hs0 hd.1.2 (hc.g.1 _ hd.1.1)) g2 g3 (Nat.le_of_eq g4) g6 g7 hR1 hf hs0 (by show Rp_h G s0.heap h T.heap; rw [hT]; exact hR)
  exact ⟨T', L, X', hLb, hRep, fun v hv target ht => hst target fun acts => by rw [doInvoke_state]; exact (k1 v hv).trans ht, fun x hx target ht => hst target fun acts => by rw [doInvoke_state]; exact (k2 x hx).trans ht⟩
theorem x_runS {rm : Room} {vs st0 : List Value} {yy : MethodName} {w : Cond} {r0 : Outcome × Hs_t} {mx index : Nat} (hc : Cx_t p s m meth c s0 A0 l G y cc nL ret hh) (hM : M_X G s0 l yy w rm vs h r0) (hd : md_Ok yy w mx) (hR : Rp_h G s0.heap h H) (w1 : ex_W (.methodLink y.cls index yy)) (w2 : ex_W (.static yy)) (hml : ls.size = nL)
    (hlen : (parseMethodDescriptor yy.desc).map (fun d => d.parameters.length) = some vs.length) (hstack : st0 = vs.reverse ++ st) (hW : (st.map fun v => v.category).sum ≤ 8) (hdg : decode cc pc = .ok (.invokestatic index, 3)) (hR1 : rm.frames + 1 ≤ R.frames ∧ 8 + (mx + 11) + rm.locals ≤ R.locals) (hf : cells + rm.cells ≤ R.cells ∧ slots + rm.slots ≤ R.slots) :
    x_Run G s0 p l e R s m args below meth c H locs cells slots rm.cells rm.slots (F0 m pc ls st0) st r0 := by
  intro T hT X
  obtain ⟨mk, methY, cY, kY, g1, g2, g3, g4, g5, g6, g7⟩ := hd.spec hc.w0 hc.g
  have hstatic : methY.isStatic = true := Cond.static_spec g1 g2 (hc.w (args := #[]) w2)
  rw [g5] at hlen
  obtain ⟨vm₁, X₁, hstep₁⟩ := X.invokestatic hc.x hc.o (hc.w w1) g1 g2 hstatic g6 g7 hd.2.2.1 (g := F0 m pc ls st0) rfl (argsL := vs) (rest := st) (Option.some.inj hlen).symm hstack (by rw [hc.b]; exact hdg)
  exact x_inv hc hM hd hR hT X₁ rfl hml hdg (by show 2 * 0 + _ ≤ _; omega) g1 hR1 hf hstep₁
theorem x_runI {rm : Room} {vs st0 : List Value} {yy : MethodName} {w : Cond} {r0 : Outcome × Hs_t} {mx index : Nat} (hc : Cx_t p s m meth c s0 A0 l G y cc nL ret hh) (hM : M_X G s0 l yy w rm (.ref a :: vs) h r0) (hd : md_Ok yy w mx) (hR : Rp_h G s0.heap h H) (w1 : ex_W (.methodLink y.cls index yy)) (w2 : ex_W (.instanceMethod yy)) (hy1 : yy.name = "<init>") (hw : ∃ b, w = .code yy b mx none) (hml : ls.size = nL)
    (hlen : (parseMethodDescriptor yy.desc).map (fun d => d.parameters.length) = some vs.length) (hstack : st0 = vs.reverse ++ .ref a :: st) (hW : (st.map fun v => v.category).sum ≤ 8) (hdg : decode cc pc = .ok (.invokespecial index, 3)) (hR1 : rm.frames + 1 ≤ R.frames ∧ 8 + (mx + 11) + rm.locals ≤ R.locals) (hf : cells + rm.cells ≤ R.cells ∧ slots + rm.slots ≤ R.slots) :
    x_Run G s0 p l e R s m args below meth c H locs cells slots rm.cells rm.slots (F0 m pc ls st0) st r0 := by
  obtain ⟨b, rfl⟩ := hw
  intro T hT X
  obtain ⟨mk, methY, cY, kY, g1, g2, g3, g4, g5, g6, g7⟩ := hd.spec hc.w0 hc.g
  rw [g5] at hlen
  have hpl : e.platform.magicAccessors = ({} : Platform).magicAccessors := by rw [X.admits.platform]
  obtain ⟨mk', methM, cM, kP, vm₁, hnamed, hmethM, hcodeM, -, hlocalsM, -, hkP, -, hW₁, hstep₁⟩ := Steps.initColdArgs (e := e) X.here hc.x X.warmed hpl hc.o hy1 hd.2.2.1 (hc.w (args := args) w1) (hc.w (args := args) w2) (hc.w (args := args) hd.1) (f := F0 m pc ls st0) rfl (fun sig hs => by rw [g5] at hs; cases hs; exact (Option.some.inj hlen).symm) hstack (by rw [hc.b]; exact hdg)
  cases g1.symm.trans hnamed
  exact x_inv hc hM hd hR hT (X.noted hW₁) rfl hml hdg (by show 2 * 0 + _ ≤ _; omega) g1 hR1 hf hstep₁
theorem x_runIN {host : String} {rm : Room} {vs st0 : List Value} {yy : MethodName} {w : Cond} {r0 : Outcome × Hs_t} {mx index : Nat} (hc : Cx_t p s m meth c s0 A0 l G y cc nL ret hh) (hM : M_X G s0 l yy w rm (.ref a :: vs) h r0) (hd : md_Ok yy w mx) (hR : Rp_h G s0.heap h H) (w1 : ex_W (.methodLinkNest y.cls index yy host)) (w2 : ex_W (.instanceMethod yy)) (hy1 : yy.name = "<init>") (hw : ∃ b, w = .code yy b mx none) (hml : ls.size = nL)
    (hlen : (parseMethodDescriptor yy.desc).map (fun d => d.parameters.length) = some vs.length) (hstack : st0 = vs.reverse ++ .ref a :: st) (hW : (st.map fun v => v.category).sum ≤ 8) (hdg : decode cc pc = .ok (.invokespecial index, 3)) (hR1 : rm.frames + 1 ≤ R.frames ∧ 8 + (mx + 11) + rm.locals ≤ R.locals) (hf : cells + rm.cells ≤ R.cells ∧ slots + rm.slots ≤ R.slots) :
    x_Run G s0 p l e R s m args below meth c H locs cells slots rm.cells rm.slots (F0 m pc ls st0) st r0 := by
  obtain ⟨b, rfl⟩ := hw
  intro T hT X
  obtain ⟨mk, methY, cY, kY, g1, g2, g3, g4, g5, g6, g7⟩ := hd.spec hc.w0 hc.g
  rw [g5] at hlen
  have hpl : e.platform.magicAccessors = ({} : Platform).magicAccessors := by rw [X.admits.platform]
  obtain ⟨mk', methM, cM, kP, vm₁, hnamed, hmethM, hcodeM, -, hlocalsM, -, hkP, -, hW₁, hstep₁⟩ := Steps.initColdArgsNest (e := e) X.here hc.x X.warmed hpl hc.o hy1 hd.2.2.1 (hc.w (args := args) w1) (hc.w (args := args) w2) (hc.w (args := args) hd.1) (f := F0 m pc ls st0) rfl (fun sig hs => by rw [g5] at hs; cases hs; exact (Option.some.inj hlen).symm) hstack (by rw [hc.b]; exact hdg)
  cases g1.symm.trans hnamed
  exact x_inv hc hM hd hR hT (X.noted hW₁) rfl hml hdg (by show 2 * 0 + _ ≤ _; omega) g1 hR1 hf hstep₁
/-- a virtual call: the class C of the receiver, the method x that is named, the method yy that is selected -/
theorem x_runV {rm : Room} {vs st0 : List Value} {yy : MethodName} {w : Cond} {r0 : Outcome × Hs_t} {mx index t N : Nat} {fs : List Value} {C : String} {TT : u_T} (hc : Cx_t p s m meth c s0 A0 l G y cc nL ret hh) (hM : M_X G s0 l yy w rm (.ref a :: vs) h r0) (hd : md_Ok yy w mx) (hR : Rp_h G s0.heap h H) (ha : h.2 a = some (.inl (t, fs))) (e1 : cl_L[t]? = some (C, TT, N)) (w1 : ex_W (.methodLink y.cls index yy)) (w2 : ex_W (.instanceMethod yy)) (w3 : ex_W (.selects C yy yy)) (hml : ls.size = nL)
    (hlen : (parseMethodDescriptor yy.desc).map (fun d => d.parameters.length) = some vs.length) (hstack : st0 = vs.reverse ++ .ref a :: st) (hW : (st.map fun v => v.category).sum ≤ 8) (hdg : decode cc pc = .ok (.invokevirtual index, 3)) (hR1 : rm.frames + 1 ≤ R.frames ∧ 8 + (mx + 11) + rm.locals ≤ R.locals) (hf : cells + rm.cells ≤ R.cells ∧ slots + rm.slots ≤ R.slots) :
    x_Run G s0 p l e R s m args below meth c H locs cells slots rm.cells rm.slots (F0 m pc ls st0) st r0 := by
  intro T hT X
  obtain ⟨mk, methY, cY, kY, g1, g2, g3, g4, g5, g6, g7⟩ := hd.spec hc.w0 hc.g
  rw [g5] at hlen
  obtain ⟨cellB, hcB, hoB, hclB⟩ := hR.recv hc ha e1
  obtain ⟨mk', methM, hnamed, hmethM, hstM, habM⟩ := Cond.instanceMethod_spec (hc.w (args := #[]) w2)
  cases g1.symm.trans hnamed
  cases g2.symm.trans hmethM
  obtain ⟨c2, r2, m2, q1, q2, q3, q4, kP, hkP, hkPi⟩ := Cond.selects_spec (hc.w (args := #[]) w3)
  cases hclB.symm.trans q1
  cases (State.methodFound?_of_named hnamed hd.2.2.1).symm.trans q2
  cases hnamed.symm.trans q3
  have hselP : selectMethod e.platform s.vm cellB.cls mk = .method mk := by rw [Launch.admits_selectMethod X.admits]; exact q4
  obtain ⟨vm₁, X₁, hstep₁⟩ := X.invokevirtual hc.x hc.o (hc.w w1) hnamed hmethM hstM hkP hkPi hd.2.2.1 (a := a) (cell := cellB) (by rw [hT]; exact hcB)
    (fun z h => by rw [h] at hoB; cases hoB) hselP hmethM habM hkP hkPi (g := F0 m pc ls st0) rfl (argsL := vs) (rest := st) (Option.some.inj hlen).symm hstack (by rw [hc.b]; exact hdg)
  exact x_inv hc hM hd hR hT X₁ rfl hml hdg (by show 2 * 0 + _ ≤ _; omega) g1 hR1 hf hstep₁
/-- the method that is named: abstract, or with a body -/
def dc_W (z : MethodName) : Prop := ex_W (.declares z) ∨ ∃ b mx rt, ex_W (.instanceMethod z) ∧ ex_W (.code z b mx rt)
theorem dc_W.spec {z : MethodName} (hd : dc_W z) (hc : Cx_t p s m meth c s0 A0 l G y cc nL ret hh) : va_Decl s z := by
  rcases hd with h | ⟨b, mx, rt, h1, h2⟩
  · exact va_Decl.abs (hc.w h)
  · exact va_Decl.of (hc.w (args := #[]) h1) (hc.w (args := #[]) h2)
/-- ... of a method that a class above declares -/
def vt_Ok (x : MethodName) (C : String) (yy : MethodName) (w : Cond) (mx : Nat) : Prop := md_Ok yy w mx ∧ ex_W (.instanceMethod yy) ∧ ex_W (.selects C x yy)
theorem x_runU {rm : Room} {vs st0 : List Value} {x yy : MethodName} {w : Cond} {r0 : Outcome × Hs_t} {mx index t N : Nat} {fs : List Value} {C owner : String} {TT : u_T} (hc : Cx_t p s m meth c s0 A0 l G y cc nL ret hh) (hM : M_X G s0 l yy w rm (.ref a :: vs) h r0) (hv : vt_Ok x C yy w mx) (hR : Rp_h G s0.heap h H) (ha : h.2 a = some (.inl (t, fs))) (e1 : cl_L[t]? = some (C, TT, N)) (w1 : ex_W (.methodLink y.cls index x)) (w2 : ex_W (.sameMethod x.cls owner x.name x.desc)) (w3 : dc_W ⟨owner, x.name, x.desc⟩) (howner : owner ≠ "java/lang/invoke/MethodHandle" ∧ owner ≠ "java/lang/invoke/VarHandle") (hml : ls.size = nL)
    (hlen : (parseMethodDescriptor x.desc).map (fun d => d.parameters.length) = some vs.length) (hstack : st0 = vs.reverse ++ .ref a :: st) (hW : (st.map fun v => v.category).sum ≤ 8) (hdg : decode cc pc = .ok (.invokevirtual index, 3)) (hR1 : rm.frames + 1 ≤ R.frames ∧ 8 + (mx + 11) + rm.locals ≤ R.locals) (hf : cells + rm.cells ≤ R.cells ∧ slots + rm.slots ≤ R.slots) :
    x_Run G s0 p l e R s m args below meth c H locs cells slots rm.cells rm.slots (F0 m pc ls st0) st r0 := by
  intro T hT X
  obtain ⟨hd, hi, hs⟩ := hv
  obtain ⟨mk, methY, cY, kY, g1, g2, g3, g4, g5, g6, g7⟩ := hd.spec hc.w0 hc.g
  obtain ⟨cellB, hcB, hoB, hclB⟩ := hR.recv hc ha e1
  obtain ⟨r0', rr, hn, hrm, hstR, hsigR⟩ := w3.spec hc
  have hsigR' : parseMethodDescriptor x.desc = some rr.sig := hsigR
  rw [hsigR'] at hlen
  obtain ⟨cn, ck, r1, hcn, hck, hni, hfd, hn1⟩ := Cond.sameMethod_found (hc.w (args := args) w2)
  cases hn.symm.trans hn1
  obtain ⟨mk', methM, hnamed, hmethM, -, habM⟩ := Cond.instanceMethod_spec (hc.w (args := #[]) hi)
  cases g1.symm.trans hnamed
  obtain ⟨c2, r2, m2, q1, q2, q3, q4, kP, hkP, hkPi⟩ := Cond.selects_spec (hc.w (args := #[]) hs)
  cases hclB.symm.trans q1
  cases hfd.symm.trans q2
  cases hnamed.symm.trans q3
  have hselP : selectMethod e.platform s.vm cellB.cls r0' = .method mk := by rw [Launch.admits_selectMethod X.admits]; exact q4
  obtain ⟨vm₁, X₁, hstep₁⟩ := X.invokevirtualUp hc.x hc.o (hc.w w1) (hc.w w2) howner hn hrm hstR (a := a) (cell := cellB) (by rw [hT]; exact hcB)
    (fun z h => by rw [h] at hoB; cases hoB) hselP hmethM habM hkP hkPi (g := F0 m pc ls st0) rfl (argsL := vs) (rest := st) (Option.some.inj hlen).symm hstack (by rw [hc.b]; exact hdg)
  exact x_inv hc hM hd hR hT X₁ rfl hml hdg (by show 2 * 0 + _ ≤ _; omega) g1 hR1 hf hstep₁
def ck_T (ts : List Nat) (h : Hs_t) (a : Nat) : Option Nat := match tg_O h a with
  | some t => if ts.contains t then some t else none
  | none => none
theorem x_ck {ts : List Nat} {rest : Nat → Rs_t} {g : JFrame} (heq : (ck_T ts h a).bind rest = some r) (kk : ∀ (t : Nat) (fs : List Value), h.2 a = some (.inl (t, fs)) → t ∈ ts → rest t = some r → W p l e R s m args below meth c H locs cells slots Q g) : W p l e R s m args below meth c H locs cells slots Q g := by
  unfold ck_T at heq
  split at heq
  · rename_i t ht
    split at heq
    · rename_i hz
      obtain ⟨fs, hx⟩ := tg_O_spec ht
      exact kk t fs hx (by simpa using hz) heq
    · cases heq
  · cases heq
theorem x_cast {t index : Nat} {fs : List Value} {nm : String} {ts : List Nat} (hc : Cx_t p s m meth c s0 A0 l G y cc nL ret hh) (hR : Rp_h G s0.heap h H) (w1 : ex_W (.classLink y.cls index nm)) (hT : tg_Ok nm ts) (hx : h.2 a = some (.inl (t, fs))) (hts : t ∈ ts) (hdg : decode cc pc = .ok (.checkcast index, 3))
    (kk : W p l e R s m args below meth c H locs cells slots Q (F0 m (pc + 3) ls (.ref a :: st))) : W p l e R s m args below meth c H locs cells slots Q (F0 m pc ls (.ref a :: st)) := by
  obtain ⟨C, T, N, e1, e2⟩ := hT t hts
  exact va_castY hc.x hc.b hc.o (hc.w w1) (va_Nw.of rfl (hc.w (args := args) e2)) (hR.recv hc hx e1) hdg kk
def is_T (yes no : List Nat) (h : Hs_t) (a : Nat) : Option Int32 := match tg_O h a with
  | some t => if yes.contains t then some 1 else if no.contains t then some 0 else none
  | none => none
theorem x_inst {index : Nat} {nm : String} {yes no : List Nat} {rest : Int32 → Rs_t} (hc : Cx_t p s m meth c s0 A0 l G y cc nL ret hh) (hR : Rp_h G s0.heap h H) (w1 : ex_W (.classLink y.cls index nm)) (hY : tg_Ok nm yes) (hN : ∀ t ∈ no, ∃ (C : String) (T : u_T) (N : Nat), cl_L[t]? = some (C, T, N) ∧ va_Nc C nm s) (heq : (is_T yes no h a).bind rest = some r) (hdg : decode cc pc = .ok (.instanceof index, 3))
    (kk : ∀ v : Int32, rest v = some r → W p l e R s m args below meth c H locs cells slots Q (F0 m (pc + 3) ls (.int v :: st))) : W p l e R s m args below meth c H locs cells slots Q (F0 m pc ls (.ref a :: st)) := by
  unfold is_T at heq
  split at heq
  · rename_i t ht
    obtain ⟨fs, hx⟩ := tg_O_spec ht
    split at heq
    · rename_i hz
      obtain ⟨C, T, N, e1, e2⟩ := hY t (by simpa using hz)
      exact va_instY hc.x hc.b hc.o (hc.w w1) (va_Nw.of rfl (hc.w (args := args) e2)) (hR.recv hc hx e1) hdg (kk 1 heq)
    · split at heq
      · rename_i hz
        obtain ⟨C, T, N, e1, e2⟩ := hN t (by simpa using hz)
        exact va_instNo hc.x hc.b hc.o (hc.w w1) e2 (hR.recv hc hx e1) hdg (kk 0 heq)
      · cases heq
  · cases heq
theorem x_lcmp {x z : Int64} (hexec : p.tables.exec = Jvm.exec) (hb : c.code = cc) (hdg : decode cc pc = .ok (.lcmp, 1))
    (k : W p l e R s m args below meth c H locs cells slots Q (F0 m (pc + 1) ls (.int (lg_cmp x z) :: st))) : W p l e R s m args below meth c H locs cells slots Q (F0 m pc ls (.long z :: .long x :: st)) := W.lcmp hexec hb hdg k
/-- a call by the receiver's class: the method named is x -/
def V_X (G : Gx_t) (s0 : State) (l : Launch) (x : MethodName) (rm : Room) (a : Nat) (vs : List Value) (h : Hs_t) (r0 : Outcome × Hs_t) : Prop :=
  ∃ (t N : Nat) (fs : List Value) (C : String) (TT : u_T) (yy : MethodName) (w : Cond) (mx : Nat), h.2 a = some (.inl (t, fs)) ∧ cl_L[t]? = some (C, TT, N) ∧ vt_Ok x C yy w mx ∧ mx ≤ 10 ∧ M_X G s0 l yy w rm (.ref a :: vs) h r0
theorem x_runW {rm : Room} {vs st0 : List Value} {x : MethodName} {r0 : Outcome × Hs_t} {index : Nat} {owner : String} (hc : Cx_t p s m meth c s0 A0 l G y cc nL ret hh) (hV : V_X G s0 l x rm a vs h r0) (hR : Rp_h G s0.heap h H) (w1 : ex_W (.methodLink y.cls index x)) (w2 : ex_W (.sameMethod x.cls owner x.name x.desc)) (w3 : dc_W ⟨owner, x.name, x.desc⟩) (howner : owner ≠ "java/lang/invoke/MethodHandle" ∧ owner ≠ "java/lang/invoke/VarHandle") (hml : ls.size = nL)
    (hlen : (parseMethodDescriptor x.desc).map (fun d => d.parameters.length) = some vs.length) (hstack : st0 = vs.reverse ++ .ref a :: st) (hW : (st.map fun v => v.category).sum ≤ 8) (hdg : decode cc pc = .ok (.invokevirtual index, 3)) (hR1 : rm.frames + 1 ≤ R.frames ∧ 8 + (10 + 11) + rm.locals ≤ R.locals) (hf : cells + rm.cells ≤ R.cells ∧ slots + rm.slots ≤ R.slots) :
    x_Run G s0 p l e R s m args below meth c H locs cells slots rm.cells rm.slots (F0 m pc ls st0) st r0 := by
  obtain ⟨t, N, fs, C, TT, yy, w, mx, ha, e1, hv, hmx, hM⟩ := hV
  exact x_runU hc hM hv hR ha e1 w1 w2 w3 howner hml hlen hstack hW hdg ⟨hR1.1, by omega⟩ hf
def rm_Ok (mc ms fr lo : Nat) (rm : Room) : Prop := mc ≤ rm.cells ∧ ms ≤ rm.slots ∧ fr ≤ rm.frames ∧ lo ≤ rm.locals
end RX
end
section
/-! A new exception, thrown: 'new; dup; invokespecial <init>()V; athrow'. -/
theorem st_lays {U V : State} {A A' : Array Value} {o n d : String} (hv : V.vm = U.vm) (hH : ∀ q : Nat, q < U.heap.size → V.heap[q]? = U.heap[q]?) (h : (Cond.laysStatic o n d).before A U = true) : (Cond.laysStatic o n d).before A' V = true := by
  have e1 : V.fieldFound? o n d = U.fieldFound? o n d := by unfold State.fieldFound?; rw [hv]
  simp only [Cond.before, Cond.holds, Cond.value] at h ⊢
  rw [hv, e1]
  cases hf : U.vm.findClass o with
  | none => simp [hf] at h
  | some c1 =>
    cases hg : U.fieldFound? o n d with
    | none => simp [hf, hg] at h
    | some x =>
      obtain ⟨c', k, i, f⟩ := x
      simp only [hf, hg] at h ⊢
      cases hs : k.statics with
      | none => simp [hs] at h
      | some q =>
        simp only [hs, Option.bind_some] at h ⊢
        cases hq : U.heap[q]? with
        | none => simp [hq] at h
        | some cell =>
          rw [hH q (Array.getElem?_eq_some_iff.mp hq).1]
          simpa [hq] using h
theorem st_ref {U V : State} {A A' : Array Value} {o n d : String} (hv : V.vm = U.vm) (hH : ∀ q : Nat, q < U.heap.size → V.heap[q]? = U.heap[q]?) (h : (Cond.isRef (.static o n d)).before A U = true) : (Cond.isRef (.static o n d)).before A' V = true := by
  have e1 : V.fieldFound? o n d = U.fieldFound? o n d := by unfold State.fieldFound?; rw [hv]
  simp only [Cond.before, Cond.holds, Cond.value, Term.eval, State.fieldNamed?] at h ⊢
  rw [e1]
  cases hg : U.fieldFound? o n d with
  | none => simp [hg] at h
  | some x =>
    obtain ⟨c', k, i, f⟩ := x
    cases hst : f.isStatic with
    | false => simp [hg, hst] at h
    | true =>
      cases hs : k.statics with
      | none => simp [hg, hs, hst] at h
      | some q =>
        cases hq : U.heap[q]? with
        | none => simp [hg, hs, hq, hst] at h
        | some cell =>
          have h9 := hH q (Array.getElem?_eq_some_iff.mp hq).1
          simp [hg, hs, hq, hst] at h
          simp [hs, hst, h9, hq, h]
/-- the words that a thrown exception needs: such as the tables decide, and four on Throwable's statics -/
def th_W (w : Cond) : Prop := ex_W w ∨ (w ∈ lw_tbl ∧ ∃ o n d, w = .laysStatic o n d) ∨ w = .isRef (.static Bundle.tN "UNASSIGNED_STACK" Bundle.steD) ∨ w = .isRef (.static Bundle.tN "SUPPRESSED_SENTINEL" Bundle.listD)
theorem th_at {U s0 : State} {A0 args : Array Value} {l : Launch} {G : Gx_t} {w : Cond} (hG : G_0 l s0 A0 G) (hW : s0.WarmedH U.vm) (hH : ∀ q : Nat, q < s0.heap.size → U.heap[q]? = s0.heap[q]?) (hw : th_W w) : w.before args U = true := by
  rcases hw with h1 | ⟨h1, o, n, d, rfl⟩ | rfl | rfl
  · exact ex_warm hW h1.2 (hG.1 _ h1.1)
  · have h3 : (Cond.laysStatic o n d).before A0 (s0.setVm U.vm) = true := Cond.holds_shifted (State.Shifted.of_warmed hW) _ [] rfl (hG.1 _ h1)
    exact st_lays (U := s0.setVm U.vm) rfl hH h3
  · have h3 : (Cond.isRef (.static Bundle.tN "UNASSIGNED_STACK" Bundle.steD)).before A0 (s0.setVm U.vm) = true := Cond.holds_shifted (State.Shifted.of_warmed hW) _ [] rfl hG.2.2.2.1
    exact st_ref (U := s0.setVm U.vm) rfl hH h3
  · have h3 : (Cond.isRef (.static Bundle.tN "SUPPRESSED_SENTINEL" Bundle.listD)).before A0 (s0.setVm U.vm) = true := Cond.holds_shifted (State.Shifted.of_warmed hW) _ [] rfl hG.2.2.2.2.1
    exact st_ref (U := s0.setVm U.vm) rfl hH h3
def th_N (t : Nat) (h : Hs_t) : Rs_t := some (.threw h.1, hp_N h (ce_O t []))
section TH
variable {p : Program} {l : Launch} {e : Env} {R : Room} {s : State} {m : MethodId} {args : Array Value} {below : List Frame} {meth : Method} {c : Code} {H : Heap} {locs : List Loc} {cells slots : Nat} {Q : State → Prop}
variable {s0 : State} {A0 : Array Value} {G : Gx_t} {y : MethodName} {cc : ByteArray} {nL : Nat} {ret : Option FieldType} {hh : List (Nat × Nat × Nat × Nat)} {pc : Nat} {ls : Array Slot} {st : List Value} {h : Hs_t} {r : Outcome × Hs_t} {a : Nat}
set_option maxHeartbeats 4000000 in
theorem x_thr {index ic t : Nat} {cls : String} {TT : u_T} {names : List String} (hc : Cx_t p s m meth c s0 A0 l G y cc nL ret []) (hR : Rp_h G s0.heap h H) (hL : Lo_k s0 locs) (e1 : cl_L[t]? = some (cls, TT, 0)) (hcls : Bundle.fit cls = true) (hnames : ∀ n ∈ names, Bundle.fit n = true) (w1 : ex_W (.classLink y.cls index cls)) (w3 : ex_W (.initialized cls))
    (hat : ∀ w ∈ Bundle.ownAtoms0 y.cls ic cls names, th_W w) (hml : ls.size = nL) (hd0 : decode cc pc = .ok (.new index, 3)) (hd1 : decode cc (pc + 3) = .ok (.dup, 1)) (hd2 : decode cc (pc + 4) = .ok (.invokespecial ic, 3)) (hd3 : decode cc (pc + 7) = .ok (.athrow, 1))
    (hce : cells + 1 ≤ R.cells ∧ slots + 6 ≤ R.slots) (hfr : names.length + 3 < R.frames) (hlo : (st.map fun v => v.category).sum + (13 * (names.length + 1) + 42) ≤ R.locals) (heq : th_N t h = some r) :
    W p l e R s m args below meth c H locs cells slots (xq_MQ G s0 below r s R.cells R.slots) (F0 m pc ls st) := by
  cases heq
  have hx := hc.x
  have hb := hc.b
  have hs := hR.1
  intro T hT X
  have htr : e.platform.stackTraces = false := (show e.platform.stackTraces = l.stackTraces by rw [X.admits.platform]).trans hc.g.2.2.1
  have Y := vx_rebase X (R' := { frames := R.frames, locals := R.locals, cells := 1, slots := 6 }) (Nat.le_refl _) (Nat.le_refl _) hce.1 hce.2
  obtain ⟨s', hA⟩ : ∃ z, z = (T.setVm s.vm).setFrames (.invoking m args :: below) := ⟨_, rfl⟩
  rw [← hA] at Y
  have hvm : s'.vm = s.vm := by rw [hA]; rfl
  have hhp : s'.heap = H := by rw [hA]; exact hT
  have hW0 : s.WarmedH s'.vm := by rw [hvm]; exact State.WarmedH.refl s
  have hW1 : s0.WarmedH s'.vm := by rw [hvm]; exact hc.w0
  have hat' : ∀ w, th_W w → w.before args s' = true := fun w hw => th_at hc.g hW1 (by rw [hhp]; exact hR.2.2.1) hw
  have hat2 : ∀ w ∈ Bundle.ownAtoms0 y.cls ic cls names, w.before args s' = true := fun w hw => hat' w (hat w hw)
  have hown' : s'.vm.findClass y.cls = some m.cls := by rw [hvm]; exact hc.o
  have hins : (Cond.instantiable cls 6).before args s' = true := hat2 _ (by simp [Bundle.ownAtoms0])
  obtain ⟨vm₁, cX, kX, hfX, hkX, -, -, X₁, st1⟩ := Y.newCold hx (own := y.cls) (C := cls) (index := index) (n := 6) hown' (hat' _ (Or.inl w1)) hins (hat' _ (Or.inl w3))
    (g := F0 m pc ls st) rfl (by rw [hb]; exact hd0) (Nat.le_refl _) (Nat.le_refl _)
  generalize hT1 : (T.setVm vm₁).pushCell { cls := cX, slots := kX.instanceTypes.map defaultValue, vm := .none } = T1 at X₁ st1
  have hcat : (Value.ref T.heap.size).category = 1 := rfl
  have hcellA : T1.heap[T.heap.size]? = some (freshCell cX kX) := by rw [← hT1]; exact State.heap_pushCell_size _ _
  have d3' : decode c.code (pc + 3) = .ok (.dup, 1) := by rw [hb]; exact hd1
  obtain ⟨U, hsteps, hrun, hend, hW, hsame, ce, hce9, hO⟩ := X₁.ctorThrow0 hx htr (own := y.cls) (cls := cls) (names := names) (ic := ic) hown' hcls hnames hat2 (fun x hx => nomatch hx) hfX hkX hcellA (by rw [hhp, hT]; exact Nat.le_refl _)
    (g := { method := m, pc := pc + 4, locals := ls, stack := .ref T.heap.size :: .ref T.heap.size :: st, locked := none }) rfl (hml.trans hc.ml.symm) rfl rfl (rest := st) rfl
    (by rw [hb]; exact hd2) (by rw [hb]; exact hd3) (hc.off _) hfr (by simp only [List.map_cons, List.sum_cons, hcat]; show 2 * 0 + _ + _ ≤ _; omega) hc.k
  obtain ⟨f1, f2⟩ := vx_frame hsame
  rw [hhp] at f1 f2
  have hWs : s.WarmedH U.vm := State.WarmedH.trans hW0 hW
  have hall : s.sameButNew ({ U with vm := s.vm } : State) locs R.cells R.slots := by
    subst hA
    obtain ⟨q1, q2⟩ := hsame
    rw [State.setFrames_setFrames] at q1
    have h2 : (T.setVm s.vm).sameButNew ({ U with vm := s.vm } : State) [] (0 + 1) (0 + 6) := ⟨q1, q2⟩
    have h3 := X.same.trans h2
    rw [List.append_nil] at h3
    exact h3.mono hce.1 hce.2
  have hTs : T.heap.size = h.1 := by rw [hT]; exact hs
  have hUs : U.heap.size = H.size + 1 := by
    have g1 : U.heap.size ≤ s'.heap.size + (0 + 1) := hsame.2.2.1
    have g2 : T.heap.size < U.heap.size := (Array.getElem?_eq_some_iff.mp hce9).1
    rw [hhp] at g1
    rw [hT] at g2
    omega
  refine ⟨U, ?_, .threw T.heap.size, hrun, hend, ⟨by rw [hTs], ?_⟩, locs, ⟨hWs, hall⟩, hL⟩
  · refine st1 _ ?_
    show Steps p.tables e below (T1.setTop { method := m, pc := pc + 3, locals := ls, stack := .ref T.heap.size :: st, locked := none }) _
    jvm_step X₁.here [X₁.here.top, hx, d3', Value.category]
    exact hsteps
  · refine hR.new hUs (fun q hq => f2 q hq (fun z hz => nomatch hz)) ?_
    have hKn := hc.K.1 t _ e1
    have h9 := hO.cls
    rw [hvm] at h9
    refine ⟨_, e1, ce, ?_, (Option.some.inj (hKn.2.1.symm.trans h9)).symm, hO.vm, fun k hk => absurd hk (Nat.not_lt_zero k)⟩
    rw [← hT]
    exact hce9
/-! What is caught. -/
theorem x_row {S : State} {f : JFrame} {x : ExceptionTableEntry} {t : List ExceptionTableEntry} {k0 : ClassId} {cell : Cell} {Q : Handler → Pre} {E : CtlPost} {d : Bool} {acts : List Action} (hx : covers x f.pc = true) (h0 : x.catchType ≠ 0)
    (hl : S.vm.ClassLinks e.platform f.method.cls x.catchType k0) (hcell : S.heap[a]? = some cell) (hobj : ∀ k, cell.vm ≠ .statics k) (hk : ∃ k, S.vm.classes[cell.cls]? = some k) (hcl : ∃ k, S.vm.classes[k0]? = some k) :
    wp (findHandler.go f a (x :: t)) Q E e d acts S ↔ if S.vm.assignable cell.cls k0 = true then Q (.found x.handlerPc) d acts (S.setVm (S.vm.noted f.method.cls x.catchType (.cls k0))) else wp (findHandler.go f a t) Q E e d acts (S.setVm (S.vm.noted f.method.cls x.catchType (.cls k0))) := by
  simp only [covers] at hx
  obtain ⟨ha, ht⟩ := (resolveClass_links e.toSetting hl).op (op := VmOp.resolveClass f.method.cls x.catchType) rfl
  have hal : S.vm.Alike (S.vm.noted f.method.cls x.catchType (.cls k0)) := (Vm.Alike.refl S.vm).noted _ _ _
  obtain ⟨k1, hk1⟩ := hk
  obtain ⟨k2, hk2⟩ := hcl
  obtain ⟨k1', hk1', -⟩ := hal.2.2 _ _ hk1
  obtain ⟨k2', hk2', -⟩ := hal.2.2 _ _ hk2
  cases hfit : S.vm.assignable cell.cls k0
  · have hf : (S.vm.noted f.method.cls x.catchType (.cls k0)).assignable cell.cls k0 = false := by rw [hal.assignable]; exact hfit
    simp [findHandler.go, hx, h0, ha, ht, hcell, hobj, hk1', hk2', hf, VmOp.dirties, VmOp.acts]
  · have hf : (S.vm.noted f.method.cls x.catchType (.cls k0)).assignable cell.cls k0 = true := by rw [hal.assignable]; exact hfit
    simp [findHandler.go, hx, h0, ha, ht, hcell, hobj, hk1', hk2', hf, VmOp.dirties, VmOp.acts]
/-- a row of the table: it covers the place, and links to a class to which the thrown object's can, or can't, be assigned -/
def x_Lk (pl : Platform) (s : State) (d : ClassId) (pc : Nat) (th : ClassId) (z : ExceptionTableEntry) (yes : Bool) : Prop := covers z pc = true ∧ z.catchType ≠ 0 ∧ ∃ k0, s.vm.ClassLinks pl d z.catchType k0 ∧ s.vm.assignable th k0 = yes
theorem x_seek {f : JFrame} {cell : Cell} (hobj : ∀ k, cell.vm ≠ .statics k) (hk0 : ∃ k, s.vm.classes[cell.cls]? = some k) (x : ExceptionTableEntry) (suf : List ExceptionTableEntry) (hx : x_Lk e.platform s f.method.cls f.pc cell.cls x true) :
    ∀ (pre : List ExceptionTableEntry) (S : State), s.WarmedH S.vm → S.heap[a]? = some cell → (∀ z ∈ pre, x_Lk e.platform s f.method.cls f.pc cell.cls z false) →
      ∃ vm', s.WarmedH vm' ∧ ∀ (Q : Handler → Pre) (E : CtlPost) (d : Bool) (acts : List Action), wp (findHandler.go f a (pre ++ x :: suf)) Q E e d acts S ↔ Q (.found x.handlerPc) d acts (S.setVm vm') := by
  obtain ⟨kc, hkc⟩ := hk0
  intro pre
  induction pre with
  | nil =>
    intro S hW hcell _
    obtain ⟨c1, c2, k0, hl, hfit⟩ := hx
    obtain ⟨dk, _, _, kt, hd, _, _, _, _, hkt, _, hopen⟩ := hl.here
    obtain ⟨kc', hkc', -⟩ := hW.alike.2.2 _ _ hkc
    obtain ⟨kt', hkt', -⟩ := hW.alike.2.2 _ _ hkt
    refine ⟨_, hW.noted hd hopen (State.rightAt_cls hl), fun Q E d acts => ?_⟩
    rw [List.nil_append, x_row c1 c2 (hW.classLinks hl) hcell hobj ⟨kc', hkc'⟩ ⟨kt', hkt'⟩, if_pos (by rw [hW.alike.assignable]; exact hfit)]
  | cons z zs ih =>
    intro S hW hcell hp
    obtain ⟨c1, c2, k0, hl, hfit⟩ := hp z List.mem_cons_self
    obtain ⟨dk, _, _, kt, hd, _, _, _, _, hkt, _, hopen⟩ := hl.here
    obtain ⟨kc', hkc', -⟩ := hW.alike.2.2 _ _ hkc
    obtain ⟨kt', hkt', -⟩ := hW.alike.2.2 _ _ hkt
    obtain ⟨vm', hW', hq⟩ := ih (S.setVm (S.vm.noted f.method.cls z.catchType (.cls k0))) (hW.noted hd hopen (State.rightAt_cls hl)) hcell (fun q hq => hp q (List.mem_cons_of_mem _ hq))
    refine ⟨vm', hW', fun Q E d acts => ?_⟩
    rw [List.cons_append, x_row c1 c2 (hW.classLinks hl) hcell hobj ⟨kc', hkc'⟩ ⟨kt', hkt'⟩, if_neg (by rw [hW.alike.assignable, hfit]; exact Bool.false_ne_true)]
    exact hq Q E d acts
theorem x_stepC {S : State} {f : JFrame} {rr : List Frame} {hp : Nat} {vm' : Vm} (hfind : ∀ (Q : Handler → Pre) (E : CtlPost) (d : Bool) (acts : List Action), wp (findHandler f a) Q E e d acts S ↔ Q (.found hp) d acts (S.setVm vm')) :
    (stepThrowing e S a (.java f :: rr)).Is ((S.setVm vm').setFrames (.java { f with pc := hp, stack := [.ref a] } :: rr)) [] := by
  simp only [stepThrowing, searchFrame, vmDo]
  generalize hr : Sem.go _ e false [] S = res
  obtain ⟨as, rfl, ha⟩ := Sem.eq_ok_of hr (a := Handler.found hp) (s' := S.setVm vm') (acts' := []) (by simp [hfind _ _ _ _])
  exact ⟨rfl, ha⟩
/-- a thrown object that lies over the frame at pc is caught by the row x, behind rows that don't take it -/
theorem x_catch {T : State} {g : JFrame} {cell : Cell} (X : Stand p l e R s m args below meth c T locs cells slots) (hg : g.method = m) (hcell : T.heap[a]? = some cell) (hobj : ∀ k, cell.vm ≠ .statics k) (hk0 : ∃ k, s.vm.classes[cell.cls]? = some k)
    (pre : List ExceptionTableEntry) (x : ExceptionTableEntry) (suf : List ExceptionTableEntry) (hsp : c.exceptionTable.toList = pre ++ x :: suf) (hp : ∀ z ∈ pre, x_Lk e.platform s m.cls g.pc cell.cls z false) (hx : x_Lk e.platform s m.cls g.pc cell.cls x true) :
    ∃ vm', Stand p l e R s m args below meth c (T.setVm vm') locs cells slots ∧ ∀ target, Steps p.tables e below ((T.setVm vm').setTop { g with pc := x.handlerPc, stack := [.ref a] }) target → Steps p.tables e below ((T.setTop g).pushFrame (.throwing a)) target := by
  subst hg
  have hm : ((T.setTop g).pushFrame (.throwing a)).vm.method? g.method = some meth := by rw [Stand.throwing_vm]; exact X.method'
  obtain ⟨vm', hW', hq⟩ := x_seek (e := e) (f := g) hobj hk0 x suf hx pre ((T.setTop g).pushFrame (.throwing a)) (by rw [Stand.throwing_vm]; exact X.warmed) (by rw [Stand.throwing_heap]; exact hcell) hp
  refine ⟨vm', X.noted hW', fun target hrest => ?_⟩
  obtain ⟨hgo, hw⟩ := X.here.throwing (g := g) a
  refine Steps.head hgo hw ?_
  rw [stepThread_throwing (frames_entered X.here.top _), (x_stepC (S := (T.setTop g).pushFrame (.throwing a)) (fun Q E d acts => by rw [W.findHandler_eq hm X.code, hsp]; exact hq Q E d acts)).1]
  obtain ⟨g₀, hr⟩ := X.frames_eq
  rw [State.setTop_of_frames _ (show (T.setVm vm').frames = .java g₀ :: below from hr)] at hrest
  rw [hr]
  have he : (((T.setTop g).pushFrame (.throwing a)).setVm vm').setFrames (.java { g with pc := x.handlerPc, stack := [.ref a] } :: below) = (T.setVm vm').setFrames (.java { g with pc := x.handlerPc, stack := [.ref a] } :: below) := by
    rw [State.pushFrame, State.setTop_of_frames _ hr, State.setFrames_setFrames]
    show ((T.setVm vm').setFrames _).setFrames _ = _
    rw [State.setFrames_setFrames]
  exact he ▸ hrest
end TH
end
section
def fu_N : Nat := 2000
def dp_N : Nat := 7
theorem cp_w : nativeFrameWords "java/lang/System" "arraycopy" 5 + 11 ≤ 40 := by decide +kernel
def xn_answer : MethodName := ⟨"StreamTower$Stream", "answer", "(I[II)I"⟩
def xn_ready : MethodName := ⟨"StreamTower$Stream", "ready", "()I"⟩
def xn_state : MethodName := ⟨"StreamTower$Stream", "state", "()I"⟩
def xn_canBeMarked : MethodName := ⟨"StreamTower$Stream", "canBeMarked", "()Z"⟩
def xn_hasMark : MethodName := ⟨"StreamTower$Stream", "hasMark", "()Z"⟩
def xn_takeMark : MethodName := ⟨"StreamTower$Stream", "takeMark", "(I)V"⟩
def xn_goBack : MethodName := ⟨"StreamTower$Stream", "goBack", "()V"⟩
def xn_remember : MethodName := ⟨"StreamTower$Passing", "remember", "()V"⟩
def xn_recall : MethodName := ⟨"StreamTower$Passing", "recall", "()V"⟩
theorem d_Row_init_0 : decode b_Row_init 0 = .ok (.aload_n 0, 1) := by decide +kernel
theorem d_Row_init_1 : decode b_Row_init 1 = .ok (.invokespecial 3, 3) := by decide +kernel
theorem d_Row_init_4 : decode b_Row_init 4 = .ok (.aload_n 0, 1) := by decide +kernel
theorem d_Row_init_5 : decode b_Row_init 5 = .ok (.iload_n 1, 1) := by decide +kernel
theorem d_Row_init_6 : decode b_Row_init 6 = .ok (.newarray .int, 2) := by decide +kernel
theorem d_Row_init_8 : decode b_Row_init 8 = .ok (.putfield 9, 3) := by decide +kernel
theorem d_Row_init_11 : decode b_Row_init 11 = .ok (.return_, 1) := by decide +kernel
theorem d_Row_clear_0 : decode b_Row_clear 0 = .ok (.aload_n 0, 1) := by decide +kernel
theorem d_Row_clear_1 : decode b_Row_clear 1 = .ok (.iconst 0, 1) := by decide +kernel
theorem d_Row_clear_2 : decode b_Row_clear 2 = .ok (.putfield 15, 3) := by decide +kernel
theorem d_Row_clear_5 : decode b_Row_clear 5 = .ok (.return_, 1) := by decide +kernel
theorem d_Row_add_0 : decode b_Row_add 0 = .ok (.aload_n 0, 1) := by decide +kernel
theorem d_Row_add_1 : decode b_Row_add 1 = .ok (.getfield 15, 3) := by decide +kernel
theorem d_Row_add_4 : decode b_Row_add 4 = .ok (.aload_n 0, 1) := by decide +kernel
theorem d_Row_add_5 : decode b_Row_add 5 = .ok (.getfield 9, 3) := by decide +kernel
theorem d_Row_add_8 : decode b_Row_add 8 = .ok (.arraylength, 1) := by decide +kernel
theorem d_Row_add_9 : decode b_Row_add 9 = .ok (.if_icmp .ge 23, 3) := by decide +kernel
theorem d_Row_add_12 : decode b_Row_add 12 = .ok (.aload_n 0, 1) := by decide +kernel
theorem d_Row_add_13 : decode b_Row_add 13 = .ok (.getfield 9, 3) := by decide +kernel
theorem d_Row_add_16 : decode b_Row_add 16 = .ok (.aload_n 0, 1) := by decide +kernel
theorem d_Row_add_17 : decode b_Row_add 17 = .ok (.getfield 15, 3) := by decide +kernel
theorem d_Row_add_20 : decode b_Row_add 20 = .ok (.iload_n 1, 1) := by decide +kernel
theorem d_Row_add_21 : decode b_Row_add 21 = .ok (.iastore, 1) := by decide +kernel
theorem d_Row_add_22 : decode b_Row_add 22 = .ok (.aload_n 0, 1) := by decide +kernel
theorem d_Row_add_23 : decode b_Row_add 23 = .ok (.dup, 1) := by decide +kernel
theorem d_Row_add_24 : decode b_Row_add 24 = .ok (.getfield 15, 3) := by decide +kernel
theorem d_Row_add_27 : decode b_Row_add 27 = .ok (.iconst 1, 1) := by decide +kernel
theorem d_Row_add_28 : decode b_Row_add 28 = .ok (.iadd, 1) := by decide +kernel
theorem d_Row_add_29 : decode b_Row_add 29 = .ok (.putfield 15, 3) := by decide +kernel
theorem d_Row_add_32 : decode b_Row_add 32 = .ok (.return_, 1) := by decide +kernel
theorem d_Row_addAll_0 : decode b_Row_addAll 0 = .ok (.iconst 0, 1) := by decide +kernel
theorem d_Row_addAll_1 : decode b_Row_addAll 1 = .ok (.istore_n 3, 1) := by decide +kernel
theorem d_Row_addAll_2 : decode b_Row_addAll 2 = .ok (.iload_n 3, 1) := by decide +kernel
theorem d_Row_addAll_3 : decode b_Row_addAll 3 = .ok (.iload_n 2, 1) := by decide +kernel
theorem d_Row_addAll_4 : decode b_Row_addAll 4 = .ok (.if_icmp .ge 16, 3) := by decide +kernel
theorem d_Row_addAll_7 : decode b_Row_addAll 7 = .ok (.aload_n 0, 1) := by decide +kernel
theorem d_Row_addAll_8 : decode b_Row_addAll 8 = .ok (.aload_n 1, 1) := by decide +kernel
theorem d_Row_addAll_9 : decode b_Row_addAll 9 = .ok (.iload_n 3, 1) := by decide +kernel
theorem d_Row_addAll_10 : decode b_Row_addAll 10 = .ok (.iaload, 1) := by decide +kernel
theorem d_Row_addAll_11 : decode b_Row_addAll 11 = .ok (.invokevirtual 19, 3) := by decide +kernel
theorem d_Row_addAll_14 : decode b_Row_addAll 14 = .ok (.iinc 3 1, 3) := by decide +kernel
theorem d_Row_addAll_17 : decode b_Row_addAll 17 = .ok (.goto (-15), 3) := by decide +kernel
theorem d_Row_addAll_20 : decode b_Row_addAll 20 = .ok (.return_, 1) := by decide +kernel
theorem d_Row_get_0 : decode b_Row_get 0 = .ok (.iload_n 1, 1) := by decide +kernel
theorem d_Row_get_1 : decode b_Row_get 1 = .ok (.ifCond .lt 20, 3) := by decide +kernel
theorem d_Row_get_4 : decode b_Row_get 4 = .ok (.iload_n 1, 1) := by decide +kernel
theorem d_Row_get_5 : decode b_Row_get 5 = .ok (.aload_n 0, 1) := by decide +kernel
theorem d_Row_get_6 : decode b_Row_get 6 = .ok (.getfield 15, 3) := by decide +kernel
theorem d_Row_get_9 : decode b_Row_get 9 = .ok (.if_icmp .ge 12, 3) := by decide +kernel
theorem d_Row_get_12 : decode b_Row_get 12 = .ok (.aload_n 0, 1) := by decide +kernel
theorem d_Row_get_13 : decode b_Row_get 13 = .ok (.getfield 9, 3) := by decide +kernel
theorem d_Row_get_16 : decode b_Row_get 16 = .ok (.iload_n 1, 1) := by decide +kernel
theorem d_Row_get_17 : decode b_Row_get 17 = .ok (.iaload, 1) := by decide +kernel
theorem d_Row_get_18 : decode b_Row_get 18 = .ok (.goto 4, 3) := by decide +kernel
theorem d_Row_get_21 : decode b_Row_get 21 = .ok (.iconst (-1), 1) := by decide +kernel
theorem d_Row_get_22 : decode b_Row_get 22 = .ok (.ireturn, 1) := by decide +kernel
theorem fl_Row_9 : fl_Ok "StreamTower$Row" 9 "StreamTower$Row" "items" "[I" "StreamTower$Row" [1] 0 true (.array .int) := ⟨wd_65, by decide +kernel, Or.inl rfl, fun t ht => by obtain rfl := List.mem_singleton.mp ht; exact ⟨_, _, _, rfl, by decide, rfl⟩⟩
theorem md_Row_init : md_Ok y_Row_init (.code y_Row_init b_Row_init 2 none) 2 := ⟨wd_63, wd_4, ⟨by decide, by decide⟩, Or.inl ⟨_, _, rfl⟩⟩
theorem ml_Row_init : (parseMethodDescriptor y_Row_init.desc).map (fun d => d.parameters.length) = some 1 := by decide +kernel
theorem fl_Row_15 : fl_Ok "StreamTower$Row" 15 "StreamTower$Row" "count" "I" "StreamTower$Row" [1] 1 false (.int) := ⟨wd_66, by decide +kernel, Or.inl rfl, fun t ht => by obtain rfl := List.mem_singleton.mp ht; exact ⟨_, _, _, rfl, by decide, rfl⟩⟩
theorem md_Row_clear : md_Ok y_Row_clear (.code y_Row_clear b_Row_clear 1 none) 1 := ⟨wd_434, wd_4, ⟨by decide, by decide⟩, Or.inl ⟨_, _, rfl⟩⟩
theorem ml_Row_clear : (parseMethodDescriptor y_Row_clear.desc).map (fun d => d.parameters.length) = some 0 := by decide +kernel
theorem md_Row_add : md_Ok y_Row_add (.code y_Row_add b_Row_add 2 none) 2 := ⟨wd_497, wd_4, ⟨by decide, by decide⟩, Or.inl ⟨_, _, rfl⟩⟩
theorem ml_Row_add : (parseMethodDescriptor y_Row_add.desc).map (fun d => d.parameters.length) = some 1 := by decide +kernel
theorem md_Row_addAll : md_Ok y_Row_addAll (.code y_Row_addAll b_Row_addAll 4 none) 4 := ⟨wd_493, wd_4, ⟨by decide, by decide⟩, Or.inl ⟨_, _, rfl⟩⟩
theorem ml_Row_addAll : (parseMethodDescriptor y_Row_addAll.desc).map (fun d => d.parameters.length) = some 2 := by decide +kernel
theorem md_Row_get : md_Ok y_Row_get (.code y_Row_get b_Row_get 2 (some .int)) 2 := ⟨wd_200, wd_4, ⟨by decide, by decide⟩, Or.inl ⟨_, _, rfl⟩⟩
theorem ml_Row_get : (parseMethodDescriptor y_Row_get.desc).map (fun d => d.parameters.length) = some 1 := by decide +kernel
def f_Row_init (t0 : Nat) (x1 : Int32) (h0 : Hs_t) : Rs_t := (nw_I 160 x1 h0).bind fun h1 => (pt_V [1] 0 h1 t0 (.ref h0.1)).bind fun h2 => re_V h2
set_option maxRecDepth 100000 in
set_option maxHeartbeats 4000000 in
theorem c_Row_init {l : Launch} {s0 : State} {A0 : Array Value} {G : Gx_t} (hG : G_0 l s0 A0 G) (rm : Room) (hrm : rm_Ok 1 160 1 12 rm) (t0 : Nat) (x1 : Int32) (h0 : Hs_t) (r : Outcome × Hs_t) (heq : f_Row_init t0 x1 h0 = some r) : M_X G s0 l y_Row_init (.code y_Row_init b_Row_init 2 none) rm [.ref t0, .int x1] h0 r := by
  refine M_X.of (by decide) hG (fun p e s m below meth c H hc hR => ?_)
  have hx := hc.x
  have hb := hc.b
  obtain ⟨hm1, hm2, hm3, hm4⟩ := id hrm
  have hLo : Lo_k s0 [] := fun _ hq => absurd hq List.not_mem_nil
  have hl := lv_entry ([.ref t0, .int x1]) (n := 2) (Nat.le_of_ble_eq_true rfl)
  rw [lg_entry_eq]
  generalize (lg_sl ([.ref t0, .int x1]) ++ List.replicate (2 - (lg_sl ([.ref t0, .int x1])).length) Slot.unset).toArray = ls at hl ⊢
  have hl : lv_has ls 2 [(0, .ref t0), (1, .int x1)] := hl
  generalize hle : ([] : List Loc) = locs at hLo ⊢
  unfold f_Row_init at heq
  refine lv_aload_n hx hb d_Row_init_0 rfl (lv_at hl 0 rfl) ?_
  refine W.objInit hx hb hc.o (hc.w wd_64) (hc.w wd_27) (hc.w wd_28) rfl (by rw [hc.ml]; exact hl.1) rfl d_Row_init_1 (by omega) (by show 2 * 0 + 0 + 12 ≤ _; omega) ?_
  refine W.eq (g2 := F0 m 4 ls []) rfl ?_
  refine lv_aload_n hx hb d_Row_init_4 rfl (lv_at hl 0 rfl) ?_
  refine lv_iload_n hx hb d_Row_init_5 rfl (lv_at hl 1 rfl) ?_
  refine x_newI hc hR wd_55 (by decide) ⟨by omega, by omega⟩ heq d_Row_init_6 (fun h1 H hR heq => ?_)
  refine x_pV hc hR hLo fl_Row_9 (Or.inr ⟨rfl, rfl⟩) rfl rfl heq d_Row_init_8 (fun h2 H locs hR hLo heq => ?_)
  exact x_vret hc hR hLo ⟨by omega, by omega⟩ heq d_Row_init_11
def rm_Row_init : Room := { frames := 1, cells := 1, slots := 160, locals := 12 }
theorem rk_Row_init : rm_Ok 1 160 1 12 rm_Row_init := ⟨Nat.le_refl _, Nat.le_refl _, Nat.le_refl _, Nat.le_refl _⟩
def f_Row_clear (t0 : Nat) (h0 : Hs_t) : Rs_t := (pt_V [1] 1 h0 t0 (.int 0)).bind fun h1 => re_V h1
set_option maxRecDepth 100000 in
set_option maxHeartbeats 4000000 in
theorem c_Row_clear {l : Launch} {s0 : State} {A0 : Array Value} {G : Gx_t} (hG : G_0 l s0 A0 G) (rm : Room) (hrm : rm_Ok 0 0 0 0 rm) (t0 : Nat) (h0 : Hs_t) (r : Outcome × Hs_t) (heq : f_Row_clear t0 h0 = some r) : M_X G s0 l y_Row_clear (.code y_Row_clear b_Row_clear 1 none) rm [.ref t0] h0 r := by
  refine M_X.of (by decide) hG (fun p e s m below meth c H hc hR => ?_)
  have hx := hc.x
  have hb := hc.b
  obtain ⟨hm1, hm2, hm3, hm4⟩ := id hrm
  have hLo : Lo_k s0 [] := fun _ hq => absurd hq List.not_mem_nil
  have hl := lv_entry ([.ref t0]) (n := 1) (Nat.le_of_ble_eq_true rfl)
  rw [lg_entry_eq]
  generalize (lg_sl ([.ref t0]) ++ List.replicate (1 - (lg_sl ([.ref t0])).length) Slot.unset).toArray = ls at hl ⊢
  have hl : lv_has ls 1 [(0, .ref t0)] := hl
  generalize hle : ([] : List Loc) = locs at hLo ⊢
  unfold f_Row_clear at heq
  refine lv_aload_n hx hb d_Row_clear_0 rfl (lv_at hl 0 rfl) ?_
  refine lv_iconst (v := 0) hx hb d_Row_clear_1 (by decide) ?_
  refine x_pV hc hR hLo fl_Row_15 (Or.inl rfl) rfl rfl heq d_Row_clear_2 (fun h1 H locs hR hLo heq => ?_)
  exact x_vret hc hR hLo ⟨by omega, by omega⟩ heq d_Row_clear_5
def rm_Row_clear : Room := { frames := 0, cells := 0, slots := 0, locals := 0 }
theorem rk_Row_clear : rm_Ok 0 0 0 0 rm_Row_clear := ⟨Nat.le_refl _, Nat.le_refl _, Nat.le_refl _, Nat.le_refl _⟩
def f_Row_add_b32 (h0 : Hs_t) : Rs_t := re_V h0
def f_Row_add (t0 : Nat) (x1 : Int32) (h0 : Hs_t) : Rs_t := (fd_I [1] 1 h0 t0).bind fun v1 => (fd_A [1] 0 h0 t0).bind fun v2 => (ln_A h0 v2).bind fun v3 => if v3 ≤ v1 then (f_Row_add_b32 h0) else ((fd_A [1] 0 h0 t0).bind fun v4 => (fd_I [1] 1 h0 t0).bind fun v5 => (as_I h0 v4 v5 x1).bind fun h1 => (fd_I [1] 1 h1 t0).bind fun v6 => (pt_V [1] 1 h1 t0 (.int (v6 + 1))).bind fun h2 => f_Row_add_b32 h2)
set_option maxRecDepth 100000 in
set_option maxHeartbeats 4000000 in
theorem k_Row_add_b32 {p : Program} {l : Launch} {e : Env} {s : State} {m : MethodId} {args : Array Value} {below : List Frame} {meth : Method} {c : Code} {s0 : State} {A0 : Array Value} {G : Gx_t} {r : Outcome × Hs_t} {rm : Room} (hc : Cx_t p s m meth c s0 A0 l G y_Row_add b_Row_add 2 none []) (hrm : rm_Ok 0 0 0 0 rm) : ∀  (h0 : Hs_t) (H : Heap) (locs : List Loc) (ls : Array Slot), Rp_h G s0.heap h0 H → Lo_k s0 locs → lv_has ls 2 [] → f_Row_add_b32  h0 = some r → W p l e rm s m args below meth c H locs 0 0 (xq_MQ G s0 below r s rm.cells rm.slots) (F0 m 32 ls []) := by
  have hx := hc.x
  have hb := hc.b
  obtain ⟨hm1, hm2, hm3, hm4⟩ := id hrm
  intro  h0 H locs ls hR hLo hl heq
  unfold f_Row_add_b32 at heq
  exact x_vret hc hR hLo ⟨by omega, by omega⟩ heq d_Row_add_32
set_option maxRecDepth 100000 in
set_option maxHeartbeats 4000000 in
theorem c_Row_add {l : Launch} {s0 : State} {A0 : Array Value} {G : Gx_t} (hG : G_0 l s0 A0 G) (rm : Room) (hrm : rm_Ok 0 0 0 0 rm) (t0 : Nat) (x1 : Int32) (h0 : Hs_t) (r : Outcome × Hs_t) (heq : f_Row_add t0 x1 h0 = some r) : M_X G s0 l y_Row_add (.code y_Row_add b_Row_add 2 none) rm [.ref t0, .int x1] h0 r := by
  refine M_X.of (by decide) hG (fun p e s m below meth c H hc hR => ?_)
  have hx := hc.x
  have hb := hc.b
  obtain ⟨hm1, hm2, hm3, hm4⟩ := id hrm
  have hLo : Lo_k s0 [] := fun _ hq => absurd hq List.not_mem_nil
  have hl := lv_entry ([.ref t0, .int x1]) (n := 2) (Nat.le_of_ble_eq_true rfl)
  rw [lg_entry_eq]
  generalize (lg_sl ([.ref t0, .int x1]) ++ List.replicate (2 - (lg_sl ([.ref t0, .int x1])).length) Slot.unset).toArray = ls at hl ⊢
  have hl : lv_has ls 2 [(0, .ref t0), (1, .int x1)] := hl
  generalize hle : ([] : List Loc) = locs at hLo ⊢
  unfold f_Row_add at heq
  refine lv_aload_n hx hb d_Row_add_0 rfl (lv_at hl 0 rfl) ?_
  refine x_gI hc hR fl_Row_15 heq d_Row_add_1 (fun v1 heq => ?_)
  refine lv_aload_n hx hb d_Row_add_4 rfl (lv_at hl 0 rfl) ?_
  refine x_gA hc hR fl_Row_9 heq d_Row_add_5 (fun v2 heq => ?_)
  refine x_len hc hR heq d_Row_add_8 (fun v3 heq => ?_)
  refine lv_icmp_ge (tgt := 32) hx hb d_Row_add_9 rfl (fun hq => ?_) (fun hq => ?_)
  · rw [if_pos hq] at heq
    refine W.widen (k := 0) (n := 0) (by omega) (by omega) ?_
    exact k_Row_add_b32 hc hrm h0 H locs ls hR hLo (lv_sub hl [] rfl) heq
  · rw [if_neg hq] at heq
    refine lv_aload_n hx hb d_Row_add_12 rfl (lv_at hl 0 rfl) ?_
    refine x_gA hc hR fl_Row_9 heq d_Row_add_13 (fun v4 heq => ?_)
    refine lv_aload_n hx hb d_Row_add_16 rfl (lv_at hl 0 rfl) ?_
    refine x_gI hc hR fl_Row_15 heq d_Row_add_17 (fun v5 heq => ?_)
    refine lv_iload_n hx hb d_Row_add_20 rfl (lv_at hl 1 rfl) ?_
    refine x_sI hc hR hLo heq d_Row_add_21 (fun h1 H locs hR hLo heq => ?_)
    refine lv_aload_n hx hb d_Row_add_22 rfl (lv_at hl 0 rfl) ?_
    refine lv_dup hx hb d_Row_add_23 rfl ?_
    refine x_gI hc hR fl_Row_15 heq d_Row_add_24 (fun v6 heq => ?_)
    refine lv_iconst (v := 1) hx hb d_Row_add_27 (by decide) ?_
    refine lv_iadd hx hb d_Row_add_28 ?_
    refine x_pV hc hR hLo fl_Row_15 (Or.inl rfl) rfl rfl heq d_Row_add_29 (fun h2 H locs hR hLo heq => ?_)
    refine W.widen (k := 0) (n := 0) (by omega) (by omega) ?_
    exact k_Row_add_b32 hc hrm h2 H locs ls hR hLo (lv_sub hl [] rfl) heq
def rm_Row_add : Room := { frames := 0, cells := 0, slots := 0, locals := 0 }
theorem rk_Row_add : rm_Ok 0 0 0 0 rm_Row_add := ⟨Nat.le_refl _, Nat.le_refl _, Nat.le_refl _, Nat.le_refl _⟩
def f_Row_addAll_b2 : Nat → Nat → Nat → Int32 → Int32 → Hs_t → Rs_t
  | 0, _, _, _, _, _ => none
  | n + 1, t0, x1, x2, x3, h0 => if x2 ≤ x3 then (re_V h0) else ((ar_I h0 x1 x3).bind fun v1 => (ck_T [1] h0 t0).bind fun _ => bd_V (f_Row_add t0 v1 h0) (fun h1 => (f_Row_addAll_b2 n) t0 x1 x2 (x3 + 1) h1))
def f_Row_addAll (t0 : Nat) (x1 : Nat) (x2 : Int32) (h0 : Hs_t) : Rs_t := f_Row_addAll_b2 fu_N t0 x1 x2 0 h0
set_option maxRecDepth 100000 in
set_option maxHeartbeats 4000000 in
theorem k_Row_addAll_b2 {p : Program} {l : Launch} {e : Env} {s : State} {m : MethodId} {args : Array Value} {below : List Frame} {meth : Method} {c : Code} {s0 : State} {A0 : Array Value} {G : Gx_t} {r : Outcome × Hs_t} {rm : Room} (hc : Cx_t p s m meth c s0 A0 l G y_Row_addAll b_Row_addAll 4 none []) (hrm : rm_Ok 0 0 1 21 rm) : ∀ (n : Nat) (t0 : Nat) (x1 : Nat) (x2 : Int32) (x3 : Int32) (h0 : Hs_t) (H : Heap) (locs : List Loc) (ls : Array Slot), Rp_h G s0.heap h0 H → Lo_k s0 locs → lv_has ls 4 [(0, .ref t0), (1, .ref x1), (2, .int x2), (3, .int x3)] → f_Row_addAll_b2 n t0 x1 x2 x3 h0 = some r → W p l e rm s m args below meth c H locs 0 0 (xq_MQ G s0 below r s rm.cells rm.slots) (F0 m 2 ls []) := by
  have hx := hc.x
  have hb := hc.b
  obtain ⟨hm1, hm2, hm3, hm4⟩ := id hrm
  intro n
  induction n with
  | zero =>
    intro t0 x1 x2 x3 h0 H locs ls hR hLo hl heq
    unfold f_Row_addAll_b2 at heq
    cases heq
  | succ n hr2 =>
    intro t0 x1 x2 x3 h0 H locs ls hR hLo hl heq
    unfold f_Row_addAll_b2 at heq
    refine lv_iload_n hx hb d_Row_addAll_2 rfl (lv_at hl 3 rfl) ?_
    refine lv_iload_n hx hb d_Row_addAll_3 rfl (lv_at hl 2 rfl) ?_
    refine lv_icmp_ge (tgt := 20) hx hb d_Row_addAll_4 rfl (fun hq => ?_) (fun hq => ?_)
    · rw [if_pos hq] at heq
      exact x_vret hc hR hLo ⟨by omega, by omega⟩ heq d_Row_addAll_20
    · rw [if_neg hq] at heq
      refine lv_aload_n hx hb d_Row_addAll_7 rfl (lv_at hl 0 rfl) ?_
      refine lv_aload_n hx hb d_Row_addAll_8 rfl (lv_at hl 1 rfl) ?_
      refine lv_iload_n hx hb d_Row_addAll_9 rfl (lv_at hl 3 rfl) ?_
      refine x_aI hc hR heq d_Row_addAll_10 (fun v1 heq => ?_)
      refine x_ck heq (fun tt fs ha ht heq => ?_)
      obtain rfl : tt = 1 := by simpa using ht
      refine x_bV (mc := 0) (ms := 0) (st := []) hc hLo heq ⟨by omega, by omega⟩ (fun r9 h9 => x_runV hc (c_Row_add hc.g rm_Row_add rk_Row_add _ _ _ _ h9) md_Row_add hR ha rfl wd_494 wd_495 wd_496 hl.1 ml_Row_add rfl (Nat.le_of_ble_eq_true rfl) d_Row_addAll_11 ⟨by show 0 + 1 ≤ _; omega, by show 8 + (2 + 11) + (0) ≤ _; omega⟩ ⟨by show 0 + 0 ≤ _; omega, by show 0 + 0 ≤ _; omega⟩) (fun h1 H locs hR hLo heq => ?_)
      refine lv_iinc (k := 3) (v := (x3 + 1)) (lv' := [(3, .int (x3 + 1)), (0, .ref t0), (1, .ref x1), (2, .int x2)]) hx hb d_Row_addAll_14 hl rfl rfl (by decide) rfl (fun ls hl => ?_)
      refine lv_goto (tgt := 2) hx hb d_Row_addAll_17 rfl ?_
      refine W.widen (k := 0) (n := 0) (by omega) (by omega) ?_
      exact hr2 t0 x1 x2 (x3 + 1) h1 H locs ls hR hLo (lv_sub hl [1, 2, 3, 0] rfl) heq
set_option maxRecDepth 100000 in
set_option maxHeartbeats 4000000 in
theorem c_Row_addAll {l : Launch} {s0 : State} {A0 : Array Value} {G : Gx_t} (hG : G_0 l s0 A0 G) (rm : Room) (hrm : rm_Ok 0 0 1 21 rm) (t0 : Nat) (x1 : Nat) (x2 : Int32) (h0 : Hs_t) (r : Outcome × Hs_t) (heq : f_Row_addAll t0 x1 x2 h0 = some r) : M_X G s0 l y_Row_addAll (.code y_Row_addAll b_Row_addAll 4 none) rm [.ref t0, .ref x1, .int x2] h0 r := by
  refine M_X.of (by decide) hG (fun p e s m below meth c H hc hR => ?_)
  have hx := hc.x
  have hb := hc.b
  obtain ⟨hm1, hm2, hm3, hm4⟩ := id hrm
  have hLo : Lo_k s0 [] := fun _ hq => absurd hq List.not_mem_nil
  have hl := lv_entry ([.ref t0, .ref x1, .int x2]) (n := 4) (Nat.le_of_ble_eq_true rfl)
  rw [lg_entry_eq]
  generalize (lg_sl ([.ref t0, .ref x1, .int x2]) ++ List.replicate (4 - (lg_sl ([.ref t0, .ref x1, .int x2])).length) Slot.unset).toArray = ls at hl ⊢
  have hl : lv_has ls 4 [(0, .ref t0), (1, .ref x1), (2, .int x2)] := hl
  generalize hle : ([] : List Loc) = locs at hLo ⊢
  unfold f_Row_addAll at heq
  refine lv_iconst (v := 0) hx hb d_Row_addAll_0 (by decide) ?_
  refine lv_istore_n (lv' := [(3, .int 0), (0, .ref t0), (1, .ref x1), (2, .int x2)]) hx hb d_Row_addAll_1 rfl hl (by decide) rfl (fun ls hl => ?_)
  refine W.widen (k := 0) (n := 0) (by omega) (by omega) ?_
  exact k_Row_addAll_b2 hc hrm fu_N t0 x1 x2 0 h0 H locs ls hR hLo (lv_sub hl [1, 2, 3, 0] rfl) heq
def rm_Row_addAll : Room := { frames := 1, cells := 0, slots := 0, locals := 21 }
theorem rk_Row_addAll : rm_Ok 0 0 1 21 rm_Row_addAll := ⟨Nat.le_refl _, Nat.le_refl _, Nat.le_refl _, Nat.le_refl _⟩
def f_Row_get_b22 (sv0 : Int32) (h0 : Hs_t) : Rs_t := re_I sv0 h0
def f_Row_get_b21 (h0 : Hs_t) : Rs_t := f_Row_get_b22 (-1) h0
def f_Row_get (t0 : Nat) (x1 : Int32) (h0 : Hs_t) : Rs_t := if x1 < 0 then (f_Row_get_b21 h0) else ((fd_I [1] 1 h0 t0).bind fun v1 => if v1 ≤ x1 then (f_Row_get_b21 h0) else ((fd_A [1] 0 h0 t0).bind fun v2 => (ar_I h0 v2 x1).bind fun v3 => f_Row_get_b22 v3 h0))
set_option maxRecDepth 100000 in
set_option maxHeartbeats 4000000 in
theorem k_Row_get_b22 {p : Program} {l : Launch} {e : Env} {s : State} {m : MethodId} {args : Array Value} {below : List Frame} {meth : Method} {c : Code} {s0 : State} {A0 : Array Value} {G : Gx_t} {r : Outcome × Hs_t} {rm : Room} (hc : Cx_t p s m meth c s0 A0 l G y_Row_get b_Row_get 2 (some .int) []) (hrm : rm_Ok 0 0 0 0 rm) : ∀ (sv0 : Int32) (h0 : Hs_t) (H : Heap) (locs : List Loc) (ls : Array Slot), Rp_h G s0.heap h0 H → Lo_k s0 locs → lv_has ls 2 [] → f_Row_get_b22 sv0 h0 = some r → W p l e rm s m args below meth c H locs 0 0 (xq_MQ G s0 below r s rm.cells rm.slots) (F0 m 22 ls [.int sv0]) := by
  have hx := hc.x
  have hb := hc.b
  obtain ⟨hm1, hm2, hm3, hm4⟩ := id hrm
  intro sv0 h0 H locs ls hR hLo hl heq
  unfold f_Row_get_b22 at heq
  exact x_iret hc hR hLo ⟨by omega, by omega⟩ heq d_Row_get_22
set_option maxRecDepth 100000 in
set_option maxHeartbeats 4000000 in
theorem k_Row_get_b21 {p : Program} {l : Launch} {e : Env} {s : State} {m : MethodId} {args : Array Value} {below : List Frame} {meth : Method} {c : Code} {s0 : State} {A0 : Array Value} {G : Gx_t} {r : Outcome × Hs_t} {rm : Room} (hc : Cx_t p s m meth c s0 A0 l G y_Row_get b_Row_get 2 (some .int) []) (hrm : rm_Ok 0 0 0 0 rm) : ∀  (h0 : Hs_t) (H : Heap) (locs : List Loc) (ls : Array Slot), Rp_h G s0.heap h0 H → Lo_k s0 locs → lv_has ls 2 [] → f_Row_get_b21  h0 = some r → W p l e rm s m args below meth c H locs 0 0 (xq_MQ G s0 below r s rm.cells rm.slots) (F0 m 21 ls []) := by
  have hx := hc.x
  have hb := hc.b
  obtain ⟨hm1, hm2, hm3, hm4⟩ := id hrm
  intro  h0 H locs ls hR hLo hl heq
  unfold f_Row_get_b21 at heq
  refine lv_iconst (v := (-1)) hx hb d_Row_get_21 (by decide) ?_
  refine W.widen (k := 0) (n := 0) (by omega) (by omega) ?_
  exact k_Row_get_b22 hc hrm (-1) h0 H locs ls hR hLo (lv_sub hl [] rfl) heq
set_option maxRecDepth 100000 in
set_option maxHeartbeats 4000000 in
theorem c_Row_get {l : Launch} {s0 : State} {A0 : Array Value} {G : Gx_t} (hG : G_0 l s0 A0 G) (rm : Room) (hrm : rm_Ok 0 0 0 0 rm) (t0 : Nat) (x1 : Int32) (h0 : Hs_t) (r : Outcome × Hs_t) (heq : f_Row_get t0 x1 h0 = some r) : M_X G s0 l y_Row_get (.code y_Row_get b_Row_get 2 (some .int)) rm [.ref t0, .int x1] h0 r := by
  refine M_X.of (by decide) hG (fun p e s m below meth c H hc hR => ?_)
  have hx := hc.x
  have hb := hc.b
  obtain ⟨hm1, hm2, hm3, hm4⟩ := id hrm
  have hLo : Lo_k s0 [] := fun _ hq => absurd hq List.not_mem_nil
  have hl := lv_entry ([.ref t0, .int x1]) (n := 2) (Nat.le_of_ble_eq_true rfl)
  rw [lg_entry_eq]
  generalize (lg_sl ([.ref t0, .int x1]) ++ List.replicate (2 - (lg_sl ([.ref t0, .int x1])).length) Slot.unset).toArray = ls at hl ⊢
  have hl : lv_has ls 2 [(0, .ref t0), (1, .int x1)] := hl
  generalize hle : ([] : List Loc) = locs at hLo ⊢
  unfold f_Row_get at heq
  refine lv_iload_n hx hb d_Row_get_0 rfl (lv_at hl 1 rfl) ?_
  refine lv_if_lt (tgt := 21) hx hb d_Row_get_1 rfl (fun hq => ?_) (fun hq => ?_)
  · rw [if_pos hq] at heq
    refine W.widen (k := 0) (n := 0) (by omega) (by omega) ?_
    exact k_Row_get_b21 hc hrm h0 H locs ls hR hLo (lv_sub hl [] rfl) heq
  · rw [if_neg hq] at heq
    refine lv_iload_n hx hb d_Row_get_4 rfl (lv_at hl 1 rfl) ?_
    refine lv_aload_n hx hb d_Row_get_5 rfl (lv_at hl 0 rfl) ?_
    refine x_gI hc hR fl_Row_15 heq d_Row_get_6 (fun v1 heq => ?_)
    refine lv_icmp_ge (tgt := 21) hx hb d_Row_get_9 rfl (fun hq => ?_) (fun hq => ?_)
    · rw [if_pos hq] at heq
      refine W.widen (k := 0) (n := 0) (by omega) (by omega) ?_
      exact k_Row_get_b21 hc hrm h0 H locs ls hR hLo (lv_sub hl [] rfl) heq
    · rw [if_neg hq] at heq
      refine lv_aload_n hx hb d_Row_get_12 rfl (lv_at hl 0 rfl) ?_
      refine x_gA hc hR fl_Row_9 heq d_Row_get_13 (fun v2 heq => ?_)
      refine lv_iload_n hx hb d_Row_get_16 rfl (lv_at hl 1 rfl) ?_
      refine x_aI hc hR heq d_Row_get_17 (fun v3 heq => ?_)
      refine lv_goto (tgt := 22) hx hb d_Row_get_18 rfl ?_
      refine W.widen (k := 0) (n := 0) (by omega) (by omega) ?_
      exact k_Row_get_b22 hc hrm v3 h0 H locs ls hR hLo (lv_sub hl [] rfl) heq
def rm_Row_get : Room := { frames := 0, cells := 0, slots := 0, locals := 0 }
theorem rk_Row_get : rm_Ok 0 0 0 0 rm_Row_get := ⟨Nat.le_refl _, Nat.le_refl _, Nat.le_refl _, Nat.le_refl _⟩
end
section
theorem el_Ok : tg_Ok ex_El [2, 3, 4, 5, 6, 7] := fun t ht => by
  simp only [List.mem_cons, List.not_mem_nil, or_false] at ht
  rcases ht with rfl | rfl | rfl | rfl | rfl | rfl
  · exact ⟨_, _, _, rfl, wd_954⟩
  · exact ⟨_, _, _, rfl, wd_949⟩
  · exact ⟨_, _, _, rfl, wd_953⟩
  · exact ⟨_, _, _, rfl, wd_951⟩
  · exact ⟨_, _, _, rfl, wd_950⟩
  · exact ⟨_, _, _, rfl, wd_952⟩
theorem d_Str_init_0 : decode b_Str_init 0 = .ok (.aload_n 0, 1) := by decide +kernel
theorem d_Str_init_1 : decode b_Str_init 1 = .ok (.invokespecial 1, 3) := by decide +kernel
theorem d_Str_init_4 : decode b_Str_init 4 = .ok (.return_, 1) := by decide +kernel
theorem d_Src_init_0 : decode b_Src_init 0 = .ok (.aload_n 0, 1) := by decide +kernel
theorem d_Src_init_1 : decode b_Src_init 1 = .ok (.invokespecial 3, 3) := by decide +kernel
theorem d_Src_init_4 : decode b_Src_init 4 = .ok (.aload_n 0, 1) := by decide +kernel
theorem d_Src_init_5 : decode b_Src_init 5 = .ok (.bipush 120, 2) := by decide +kernel
theorem d_Src_init_7 : decode b_Src_init 7 = .ok (.newarray .int, 2) := by decide +kernel
theorem d_Src_init_9 : decode b_Src_init 9 = .ok (.putfield 9, 3) := by decide +kernel
theorem d_Src_init_12 : decode b_Src_init 12 = .ok (.aload_n 0, 1) := by decide +kernel
theorem d_Src_init_13 : decode b_Src_init 13 = .ok (.bipush 121, 2) := by decide +kernel
theorem d_Src_init_15 : decode b_Src_init 15 = .ok (.newarray .boolean, 2) := by decide +kernel
theorem d_Src_init_17 : decode b_Src_init 17 = .ok (.putfield 15, 3) := by decide +kernel
theorem d_Src_init_20 : decode b_Src_init 20 = .ok (.aload_n 0, 1) := by decide +kernel
theorem d_Src_init_21 : decode b_Src_init 21 = .ok (.bipush 121, 2) := by decide +kernel
theorem d_Src_init_23 : decode b_Src_init 23 = .ok (.newarray .boolean, 2) := by decide +kernel
theorem d_Src_init_25 : decode b_Src_init 25 = .ok (.putfield 19, 3) := by decide +kernel
theorem d_Src_init_28 : decode b_Src_init 28 = .ok (.return_, 1) := by decide +kernel
theorem d_Src_hasRoomFor_0 : decode b_Src_hasRoomFor 0 = .ok (.aload_n 0, 1) := by decide +kernel
theorem d_Src_hasRoomFor_1 : decode b_Src_hasRoomFor 1 = .ok (.getfield 22, 3) := by decide +kernel
theorem d_Src_hasRoomFor_4 : decode b_Src_hasRoomFor 4 = .ok (.iload_n 1, 1) := by decide +kernel
theorem d_Src_hasRoomFor_5 : decode b_Src_hasRoomFor 5 = .ok (.iadd, 1) := by decide +kernel
theorem d_Src_hasRoomFor_6 : decode b_Src_hasRoomFor 6 = .ok (.aload_n 0, 1) := by decide +kernel
theorem d_Src_hasRoomFor_7 : decode b_Src_hasRoomFor 7 = .ok (.getfield 9, 3) := by decide +kernel
theorem d_Src_hasRoomFor_10 : decode b_Src_hasRoomFor 10 = .ok (.arraylength, 1) := by decide +kernel
theorem d_Src_hasRoomFor_11 : decode b_Src_hasRoomFor 11 = .ok (.if_icmp .gt 7, 3) := by decide +kernel
theorem d_Src_hasRoomFor_14 : decode b_Src_hasRoomFor 14 = .ok (.iconst 1, 1) := by decide +kernel
theorem d_Src_hasRoomFor_15 : decode b_Src_hasRoomFor 15 = .ok (.goto 4, 3) := by decide +kernel
theorem d_Src_hasRoomFor_18 : decode b_Src_hasRoomFor 18 = .ok (.iconst 0, 1) := by decide +kernel
theorem d_Src_hasRoomFor_19 : decode b_Src_hasRoomFor 19 = .ok (.ireturn, 1) := by decide +kernel
theorem d_Src_append_0 : decode b_Src_append 0 = .ok (.aload_n 0, 1) := by decide +kernel
theorem d_Src_append_1 : decode b_Src_append 1 = .ok (.iconst 1, 1) := by decide +kernel
theorem d_Src_append_2 : decode b_Src_append 2 = .ok (.invokevirtual 26, 3) := by decide +kernel
theorem d_Src_append_5 : decode b_Src_append 5 = .ok (.ifCond .eq 23, 3) := by decide +kernel
theorem d_Src_append_8 : decode b_Src_append 8 = .ok (.aload_n 0, 1) := by decide +kernel
theorem d_Src_append_9 : decode b_Src_append 9 = .ok (.getfield 9, 3) := by decide +kernel
theorem d_Src_append_12 : decode b_Src_append 12 = .ok (.aload_n 0, 1) := by decide +kernel
theorem d_Src_append_13 : decode b_Src_append 13 = .ok (.getfield 22, 3) := by decide +kernel
theorem d_Src_append_16 : decode b_Src_append 16 = .ok (.iload_n 1, 1) := by decide +kernel
theorem d_Src_append_17 : decode b_Src_append 17 = .ok (.iastore, 1) := by decide +kernel
theorem d_Src_append_18 : decode b_Src_append 18 = .ok (.aload_n 0, 1) := by decide +kernel
theorem d_Src_append_19 : decode b_Src_append 19 = .ok (.dup, 1) := by decide +kernel
theorem d_Src_append_20 : decode b_Src_append 20 = .ok (.getfield 22, 3) := by decide +kernel
theorem d_Src_append_23 : decode b_Src_append 23 = .ok (.iconst 1, 1) := by decide +kernel
theorem d_Src_append_24 : decode b_Src_append 24 = .ok (.iadd, 1) := by decide +kernel
theorem d_Src_append_25 : decode b_Src_append 25 = .ok (.putfield 22, 3) := by decide +kernel
theorem d_Src_append_28 : decode b_Src_append 28 = .ok (.return_, 1) := by decide +kernel
theorem d_Src_startPortion_0 : decode b_Src_startPortion 0 = .ok (.aload_n 0, 1) := by decide +kernel
theorem d_Src_startPortion_1 : decode b_Src_startPortion 1 = .ok (.getfield 15, 3) := by decide +kernel
theorem d_Src_startPortion_4 : decode b_Src_startPortion 4 = .ok (.aload_n 0, 1) := by decide +kernel
theorem d_Src_startPortion_5 : decode b_Src_startPortion 5 = .ok (.getfield 22, 3) := by decide +kernel
theorem d_Src_startPortion_8 : decode b_Src_startPortion 8 = .ok (.iconst 1, 1) := by decide +kernel
theorem d_Src_startPortion_9 : decode b_Src_startPortion 9 = .ok (.bastore, 1) := by decide +kernel
theorem d_Src_startPortion_10 : decode b_Src_startPortion 10 = .ok (.return_, 1) := by decide +kernel
theorem d_Src_mend_0 : decode b_Src_mend 0 = .ok (.iconst 0, 1) := by decide +kernel
theorem d_Src_mend_1 : decode b_Src_mend 1 = .ok (.istore_n 1, 1) := by decide +kernel
theorem d_Src_mend_2 : decode b_Src_mend 2 = .ok (.iload_n 1, 1) := by decide +kernel
theorem d_Src_mend_3 : decode b_Src_mend 3 = .ok (.aload_n 0, 1) := by decide +kernel
theorem d_Src_mend_4 : decode b_Src_mend 4 = .ok (.getfield 19, 3) := by decide +kernel
theorem d_Src_mend_7 : decode b_Src_mend 7 = .ok (.arraylength, 1) := by decide +kernel
theorem d_Src_mend_8 : decode b_Src_mend 8 = .ok (.if_icmp .ge 16, 3) := by decide +kernel
theorem d_Src_mend_11 : decode b_Src_mend 11 = .ok (.aload_n 0, 1) := by decide +kernel
theorem d_Src_mend_12 : decode b_Src_mend 12 = .ok (.getfield 19, 3) := by decide +kernel
theorem d_Src_mend_15 : decode b_Src_mend 15 = .ok (.iload_n 1, 1) := by decide +kernel
theorem d_Src_mend_16 : decode b_Src_mend 16 = .ok (.iconst 0, 1) := by decide +kernel
theorem d_Src_mend_17 : decode b_Src_mend 17 = .ok (.bastore, 1) := by decide +kernel
theorem d_Src_mend_18 : decode b_Src_mend 18 = .ok (.iinc 1 1, 3) := by decide +kernel
theorem d_Src_mend_21 : decode b_Src_mend 21 = .ok (.goto (-19), 3) := by decide +kernel
theorem d_Src_mend_24 : decode b_Src_mend 24 = .ok (.return_, 1) := by decide +kernel
theorem d_Src_breakPlace_0 : decode b_Src_breakPlace 0 = .ok (.iload_n 1, 1) := by decide +kernel
theorem d_Src_breakPlace_1 : decode b_Src_breakPlace 1 = .ok (.ifCond .lt 12, 3) := by decide +kernel
theorem d_Src_breakPlace_4 : decode b_Src_breakPlace 4 = .ok (.iload_n 1, 1) := by decide +kernel
theorem d_Src_breakPlace_5 : decode b_Src_breakPlace 5 = .ok (.aload_n 0, 1) := by decide +kernel
theorem d_Src_breakPlace_6 : decode b_Src_breakPlace 6 = .ok (.getfield 19, 3) := by decide +kernel
theorem d_Src_breakPlace_9 : decode b_Src_breakPlace 9 = .ok (.arraylength, 1) := by decide +kernel
theorem d_Src_breakPlace_10 : decode b_Src_breakPlace 10 = .ok (.if_icmp .lt 5, 3) := by decide +kernel
theorem d_Src_breakPlace_13 : decode b_Src_breakPlace 13 = .ok (.iconst 0, 1) := by decide +kernel
theorem d_Src_breakPlace_14 : decode b_Src_breakPlace 14 = .ok (.ireturn, 1) := by decide +kernel
theorem d_Src_breakPlace_15 : decode b_Src_breakPlace 15 = .ok (.aload_n 0, 1) := by decide +kernel
theorem d_Src_breakPlace_16 : decode b_Src_breakPlace 16 = .ok (.getfield 19, 3) := by decide +kernel
theorem d_Src_breakPlace_19 : decode b_Src_breakPlace 19 = .ok (.iload_n 1, 1) := by decide +kernel
theorem d_Src_breakPlace_20 : decode b_Src_breakPlace 20 = .ok (.iconst 1, 1) := by decide +kernel
theorem d_Src_breakPlace_21 : decode b_Src_breakPlace 21 = .ok (.bastore, 1) := by decide +kernel
theorem d_Src_breakPlace_22 : decode b_Src_breakPlace 22 = .ok (.iconst 1, 1) := by decide +kernel
theorem d_Src_breakPlace_23 : decode b_Src_breakPlace 23 = .ok (.ireturn, 1) := by decide +kernel
theorem d_Src_ready_0 : decode b_Src_ready 0 = .ok (.aload_n 0, 1) := by decide +kernel
theorem d_Src_ready_1 : decode b_Src_ready 1 = .ok (.getfield 30, 3) := by decide +kernel
theorem d_Src_ready_4 : decode b_Src_ready 4 = .ok (.istore_n 1, 1) := by decide +kernel
theorem d_Src_ready_5 : decode b_Src_ready 5 = .ok (.iload_n 1, 1) := by decide +kernel
theorem d_Src_ready_6 : decode b_Src_ready 6 = .ok (.aload_n 0, 1) := by decide +kernel
theorem d_Src_ready_7 : decode b_Src_ready 7 = .ok (.getfield 22, 3) := by decide +kernel
theorem d_Src_ready_10 : decode b_Src_ready 10 = .ok (.if_icmp .ge 26, 3) := by decide +kernel
theorem d_Src_ready_13 : decode b_Src_ready 13 = .ok (.iload_n 1, 1) := by decide +kernel
theorem d_Src_ready_14 : decode b_Src_ready 14 = .ok (.aload_n 0, 1) := by decide +kernel
theorem d_Src_ready_15 : decode b_Src_ready 15 = .ok (.getfield 30, 3) := by decide +kernel
theorem d_Src_ready_18 : decode b_Src_ready 18 = .ok (.if_icmp .eq 12, 3) := by decide +kernel
theorem d_Src_ready_21 : decode b_Src_ready 21 = .ok (.aload_n 0, 1) := by decide +kernel
theorem d_Src_ready_22 : decode b_Src_ready 22 = .ok (.getfield 15, 3) := by decide +kernel
theorem d_Src_ready_25 : decode b_Src_ready 25 = .ok (.iload_n 1, 1) := by decide +kernel
theorem d_Src_ready_26 : decode b_Src_ready 26 = .ok (.baload, 1) := by decide +kernel
theorem d_Src_ready_27 : decode b_Src_ready 27 = .ok (.ifCond .ne 9, 3) := by decide +kernel
theorem d_Src_ready_30 : decode b_Src_ready 30 = .ok (.iinc 1 1, 3) := by decide +kernel
theorem d_Src_ready_33 : decode b_Src_ready 33 = .ok (.goto (-28), 3) := by decide +kernel
theorem d_Src_ready_36 : decode b_Src_ready 36 = .ok (.iload_n 1, 1) := by decide +kernel
theorem d_Src_ready_37 : decode b_Src_ready 37 = .ok (.aload_n 0, 1) := by decide +kernel
theorem d_Src_ready_38 : decode b_Src_ready 38 = .ok (.getfield 30, 3) := by decide +kernel
theorem d_Src_ready_41 : decode b_Src_ready 41 = .ok (.isub, 1) := by decide +kernel
theorem d_Src_ready_42 : decode b_Src_ready 42 = .ok (.ireturn, 1) := by decide +kernel
theorem d_Src_answer_0 : decode b_Src_answer 0 = .ok (.aload_n 0, 1) := by decide +kernel
theorem d_Src_answer_1 : decode b_Src_answer 1 = .ok (.getfield 19, 3) := by decide +kernel
theorem d_Src_answer_4 : decode b_Src_answer 4 = .ok (.aload_n 0, 1) := by decide +kernel
theorem d_Src_answer_5 : decode b_Src_answer 5 = .ok (.getfield 30, 3) := by decide +kernel
theorem d_Src_answer_8 : decode b_Src_answer 8 = .ok (.baload, 1) := by decide +kernel
theorem d_Src_answer_9 : decode b_Src_answer 9 = .ok (.ifCond .eq 5, 3) := by decide +kernel
theorem d_Src_answer_12 : decode b_Src_answer 12 = .ok (.iconst (-1), 1) := by decide +kernel
theorem d_Src_answer_13 : decode b_Src_answer 13 = .ok (.ireturn, 1) := by decide +kernel
theorem d_Src_answer_14 : decode b_Src_answer 14 = .ok (.iload_n 1, 1) := by decide +kernel
theorem d_Src_answer_15 : decode b_Src_answer 15 = .ok (.aload_n 0, 1) := by decide +kernel
theorem d_Src_answer_16 : decode b_Src_answer 16 = .ok (.invokevirtual 33, 3) := by decide +kernel
theorem d_Src_answer_19 : decode b_Src_answer 19 = .ok (.invokestatic 37, 3) := by decide +kernel
theorem d_Src_answer_22 : decode b_Src_answer 22 = .ok (.istore 4, 2) := by decide +kernel
theorem d_Src_answer_24 : decode b_Src_answer 24 = .ok (.aload_n 0, 1) := by decide +kernel
theorem d_Src_answer_25 : decode b_Src_answer 25 = .ok (.getfield 9, 3) := by decide +kernel
theorem d_Src_answer_28 : decode b_Src_answer 28 = .ok (.aload_n 0, 1) := by decide +kernel
theorem d_Src_answer_29 : decode b_Src_answer 29 = .ok (.getfield 30, 3) := by decide +kernel
theorem d_Src_answer_32 : decode b_Src_answer 32 = .ok (.aload_n 2, 1) := by decide +kernel
theorem d_Src_answer_33 : decode b_Src_answer 33 = .ok (.iload_n 3, 1) := by decide +kernel
theorem d_Src_answer_34 : decode b_Src_answer 34 = .ok (.iload 4, 2) := by decide +kernel
theorem d_Src_answer_36 : decode b_Src_answer 36 = .ok (.invokestatic 43, 3) := by decide +kernel
theorem d_Src_answer_39 : decode b_Src_answer 39 = .ok (.aload_n 0, 1) := by decide +kernel
theorem d_Src_answer_40 : decode b_Src_answer 40 = .ok (.dup, 1) := by decide +kernel
theorem d_Src_answer_41 : decode b_Src_answer 41 = .ok (.getfield 30, 3) := by decide +kernel
theorem d_Src_answer_44 : decode b_Src_answer 44 = .ok (.iload 4, 2) := by decide +kernel
theorem d_Src_answer_46 : decode b_Src_answer 46 = .ok (.iadd, 1) := by decide +kernel
theorem d_Src_answer_47 : decode b_Src_answer 47 = .ok (.putfield 30, 3) := by decide +kernel
theorem d_Src_answer_50 : decode b_Src_answer 50 = .ok (.iload 4, 2) := by decide +kernel
theorem d_Src_answer_52 : decode b_Src_answer 52 = .ok (.ireturn, 1) := by decide +kernel
theorem d_Src_state_0 : decode b_Src_state 0 = .ok (.aload_n 0, 1) := by decide +kernel
theorem d_Src_state_1 : decode b_Src_state 1 = .ok (.getfield 30, 3) := by decide +kernel
theorem d_Src_state_4 : decode b_Src_state 4 = .ok (.ireturn, 1) := by decide +kernel
theorem d_Str_canBeMarked_0 : decode b_Str_canBeMarked 0 = .ok (.iconst 0, 1) := by decide +kernel
theorem d_Str_canBeMarked_1 : decode b_Str_canBeMarked 1 = .ok (.ireturn, 1) := by decide +kernel
theorem d_Str_hasMark_0 : decode b_Str_hasMark 0 = .ok (.iconst 0, 1) := by decide +kernel
theorem d_Str_hasMark_1 : decode b_Str_hasMark 1 = .ok (.ireturn, 1) := by decide +kernel
theorem d_Str_takeMark_0 : decode b_Str_takeMark 0 = .ok (.return_, 1) := by decide +kernel
theorem d_Str_goBack_0 : decode b_Str_goBack 0 = .ok (.return_, 1) := by decide +kernel
theorem md_Str_init : md_Ok y_Str_init (.code y_Str_init b_Str_init 1 none) 1 := ⟨wd_36, wd_2, ⟨by decide, by decide⟩, Or.inl ⟨_, _, rfl⟩⟩
theorem ml_Str_init : (parseMethodDescriptor y_Str_init.desc).map (fun d => d.parameters.length) = some 0 := by decide +kernel
theorem fl_Src_9 : fl_Ok "StreamTower$Source" 9 "StreamTower$Source" "bytes" "[I" "StreamTower$Source" [2] 0 true (.array .int) := ⟨wd_38, by decide +kernel, Or.inl rfl, fun t ht => by obtain rfl := List.mem_singleton.mp ht; exact ⟨_, _, _, rfl, by decide, rfl⟩⟩
theorem fl_Src_15 : fl_Ok "StreamTower$Source" 15 "StreamTower$Source" "startsPortion" "[Z" "StreamTower$Source" [2] 1 true (.array .boolean) := ⟨wd_39, by decide +kernel, Or.inl rfl, fun t ht => by obtain rfl := List.mem_singleton.mp ht; exact ⟨_, _, _, rfl, by decide, rfl⟩⟩
theorem fl_Src_19 : fl_Ok "StreamTower$Source" 19 "StreamTower$Source" "broken" "[Z" "StreamTower$Source" [2] 2 true (.array .boolean) := ⟨wd_40, by decide +kernel, Or.inl rfl, fun t ht => by obtain rfl := List.mem_singleton.mp ht; exact ⟨_, _, _, rfl, by decide, rfl⟩⟩
theorem md_Src_init : md_Ok y_Src_init (.code y_Src_init b_Src_init 1 none) 1 := ⟨wd_33, wd_3, ⟨by decide, by decide⟩, Or.inl ⟨_, _, rfl⟩⟩
theorem ml_Src_init : (parseMethodDescriptor y_Src_init.desc).map (fun d => d.parameters.length) = some 0 := by decide +kernel
theorem fl_Src_22 : fl_Ok "StreamTower$Source" 22 "StreamTower$Source" "count" "I" "StreamTower$Source" [2] 3 false (.int) := ⟨wd_41, by decide +kernel, Or.inl rfl, fun t ht => by obtain rfl := List.mem_singleton.mp ht; exact ⟨_, _, _, rfl, by decide, rfl⟩⟩
theorem md_Src_hasRoomFor : md_Ok y_Src_hasRoomFor (.code y_Src_hasRoomFor b_Src_hasRoomFor 2 (some .boolean)) 2 := ⟨wd_277, wd_3, ⟨by decide, by decide⟩, Or.inl ⟨_, _, rfl⟩⟩
theorem ml_Src_hasRoomFor : (parseMethodDescriptor y_Src_hasRoomFor.desc).map (fun d => d.parameters.length) = some 1 := by decide +kernel
theorem md_Src_append : md_Ok y_Src_append (.code y_Src_append b_Src_append 2 none) 2 := ⟨wd_296, wd_3, ⟨by decide, by decide⟩, Or.inl ⟨_, _, rfl⟩⟩
theorem ml_Src_append : (parseMethodDescriptor y_Src_append.desc).map (fun d => d.parameters.length) = some 1 := by decide +kernel
theorem md_Src_startPortion : md_Ok y_Src_startPortion (.code y_Src_startPortion b_Src_startPortion 1 none) 1 := ⟨wd_111, wd_3, ⟨by decide, by decide⟩, Or.inl ⟨_, _, rfl⟩⟩
theorem ml_Src_startPortion : (parseMethodDescriptor y_Src_startPortion.desc).map (fun d => d.parameters.length) = some 0 := by decide +kernel
theorem md_Src_mend : md_Ok y_Src_mend (.code y_Src_mend b_Src_mend 2 none) 2 := ⟨wd_119, wd_3, ⟨by decide, by decide⟩, Or.inl ⟨_, _, rfl⟩⟩
theorem ml_Src_mend : (parseMethodDescriptor y_Src_mend.desc).map (fun d => d.parameters.length) = some 0 := by decide +kernel
theorem md_Src_breakPlace : md_Ok y_Src_breakPlace (.code y_Src_breakPlace b_Src_breakPlace 2 (some .boolean)) 2 := ⟨wd_123, wd_3, ⟨by decide, by decide⟩, Or.inl ⟨_, _, rfl⟩⟩
theorem ml_Src_breakPlace : (parseMethodDescriptor y_Src_breakPlace.desc).map (fun d => d.parameters.length) = some 1 := by decide +kernel
theorem fl_Src_30 : fl_Ok "StreamTower$Source" 30 "StreamTower$Source" "taken" "I" "StreamTower$Source" [2] 4 false (.int) := ⟨wd_43, by decide +kernel, Or.inl rfl, fun t ht => by obtain rfl := List.mem_singleton.mp ht; exact ⟨_, _, _, rfl, by decide, rfl⟩⟩
theorem md_Src_ready : md_Ok y_Src_ready (.code y_Src_ready b_Src_ready 2 (some .int)) 2 := ⟨wd_145, wd_3, ⟨by decide, by decide⟩, Or.inl ⟨_, _, rfl⟩⟩
theorem ml_Src_ready : (parseMethodDescriptor y_Src_ready.desc).map (fun d => d.parameters.length) = some 0 := by decide +kernel
theorem md_Src_answer : md_Ok y_Src_answer (.code y_Src_answer b_Src_answer 5 (some .int)) 5 := ⟨wd_463, wd_3, ⟨by decide, by decide⟩, Or.inl ⟨_, _, rfl⟩⟩
theorem ml_Src_answer : (parseMethodDescriptor y_Src_answer.desc).map (fun d => d.parameters.length) = some 3 := by decide +kernel
theorem md_Src_state : md_Ok y_Src_state (.code y_Src_state b_Src_state 1 (some .int)) 1 := ⟨wd_165, wd_3, ⟨by decide, by decide⟩, Or.inl ⟨_, _, rfl⟩⟩
theorem ml_Src_state : (parseMethodDescriptor y_Src_state.desc).map (fun d => d.parameters.length) = some 0 := by decide +kernel
theorem md_Str_canBeMarked : md_Ok y_Str_canBeMarked (.code y_Str_canBeMarked b_Str_canBeMarked 1 (some .boolean)) 1 := ⟨wd_603, wd_2, ⟨by decide, by decide⟩, Or.inl ⟨_, _, rfl⟩⟩
theorem ml_Str_canBeMarked : (parseMethodDescriptor y_Str_canBeMarked.desc).map (fun d => d.parameters.length) = some 0 := by decide +kernel
theorem md_Str_hasMark : md_Ok y_Str_hasMark (.code y_Str_hasMark b_Str_hasMark 1 (some .boolean)) 1 := ⟨wd_667, wd_2, ⟨by decide, by decide⟩, Or.inl ⟨_, _, rfl⟩⟩
theorem ml_Str_hasMark : (parseMethodDescriptor y_Str_hasMark.desc).map (fun d => d.parameters.length) = some 0 := by decide +kernel
theorem md_Str_takeMark : md_Ok y_Str_takeMark (.code y_Str_takeMark b_Str_takeMark 2 none) 2 := ⟨wd_645, wd_2, ⟨by decide, by decide⟩, Or.inl ⟨_, _, rfl⟩⟩
theorem ml_Str_takeMark : (parseMethodDescriptor y_Str_takeMark.desc).map (fun d => d.parameters.length) = some 1 := by decide +kernel
theorem md_Str_goBack : md_Ok y_Str_goBack (.code y_Str_goBack b_Str_goBack 1 none) 1 := ⟨wd_694, wd_2, ⟨by decide, by decide⟩, Or.inl ⟨_, _, rfl⟩⟩
theorem ml_Str_goBack : (parseMethodDescriptor y_Str_goBack.desc).map (fun d => d.parameters.length) = some 0 := by decide +kernel
def f_Str_init (t0 : Nat) (h0 : Hs_t) : Rs_t := re_V h0
set_option maxRecDepth 100000 in
set_option maxHeartbeats 4000000 in
theorem c_Str_init {l : Launch} {s0 : State} {A0 : Array Value} {G : Gx_t} (hG : G_0 l s0 A0 G) (rm : Room) (hrm : rm_Ok 0 0 1 12 rm) (t0 : Nat) (h0 : Hs_t) (r : Outcome × Hs_t) (heq : f_Str_init t0 h0 = some r) : M_X G s0 l y_Str_init (.code y_Str_init b_Str_init 1 none) rm [.ref t0] h0 r := by
  refine M_X.of (by decide) hG (fun p e s m below meth c H hc hR => ?_)
  have hx := hc.x
  have hb := hc.b
  obtain ⟨hm1, hm2, hm3, hm4⟩ := id hrm
  have hLo : Lo_k s0 [] := fun _ hq => absurd hq List.not_mem_nil
  have hl := lv_entry ([.ref t0]) (n := 1) (Nat.le_of_ble_eq_true rfl)
  rw [lg_entry_eq]
  generalize (lg_sl ([.ref t0]) ++ List.replicate (1 - (lg_sl ([.ref t0])).length) Slot.unset).toArray = ls at hl ⊢
  have hl : lv_has ls 1 [(0, .ref t0)] := hl
  generalize hle : ([] : List Loc) = locs at hLo ⊢
  unfold f_Str_init at heq
  refine lv_aload_n hx hb d_Str_init_0 rfl (lv_at hl 0 rfl) ?_
  refine W.objInit hx hb hc.o (hc.w wd_37) (hc.w wd_27) (hc.w wd_28) rfl (by rw [hc.ml]; exact hl.1) rfl d_Str_init_1 (by omega) (by show 2 * 0 + 0 + 12 ≤ _; omega) ?_
  refine W.eq (g2 := F0 m 4 ls []) rfl ?_
  exact x_vret hc hR hLo ⟨by omega, by omega⟩ heq d_Str_init_4
def rm_Str_init : Room := { frames := 1, cells := 0, slots := 0, locals := 12 }
theorem rk_Str_init : rm_Ok 0 0 1 12 rm_Str_init := ⟨Nat.le_refl _, Nat.le_refl _, Nat.le_refl _, Nat.le_refl _⟩
def f_Src_init (t0 : Nat) (h0 : Hs_t) : Rs_t := bd_V (f_Str_init t0 h0) (fun h1 => (nw_I 120 120 h1).bind fun h2 => (pt_V [2] 0 h2 t0 (.ref h1.1)).bind fun h3 => (nw_Z 121 121 h3).bind fun h4 => (pt_V [2] 1 h4 t0 (.ref h3.1)).bind fun h5 => (nw_Z 121 121 h5).bind fun h6 => (pt_V [2] 2 h6 t0 (.ref h5.1)).bind fun h7 => re_V h7)
set_option maxRecDepth 100000 in
set_option maxHeartbeats 4000000 in
theorem c_Src_init {l : Launch} {s0 : State} {A0 : Array Value} {G : Gx_t} (hG : G_0 l s0 A0 G) (rm : Room) (hrm : rm_Ok 3 362 2 32 rm) (t0 : Nat) (h0 : Hs_t) (r : Outcome × Hs_t) (heq : f_Src_init t0 h0 = some r) : M_X G s0 l y_Src_init (.code y_Src_init b_Src_init 1 none) rm [.ref t0] h0 r := by
  refine M_X.of (by decide) hG (fun p e s m below meth c H hc hR => ?_)
  have hx := hc.x
  have hb := hc.b
  obtain ⟨hm1, hm2, hm3, hm4⟩ := id hrm
  have hLo : Lo_k s0 [] := fun _ hq => absurd hq List.not_mem_nil
  have hl := lv_entry ([.ref t0]) (n := 1) (Nat.le_of_ble_eq_true rfl)
  rw [lg_entry_eq]
  generalize (lg_sl ([.ref t0]) ++ List.replicate (1 - (lg_sl ([.ref t0])).length) Slot.unset).toArray = ls at hl ⊢
  have hl : lv_has ls 1 [(0, .ref t0)] := hl
  generalize hle : ([] : List Loc) = locs at hLo ⊢
  unfold f_Src_init at heq
  refine lv_aload_n hx hb d_Src_init_0 rfl (lv_at hl 0 rfl) ?_
  refine x_bV (mc := 0) (ms := 0) (st := []) hc hLo heq ⟨by omega, by omega⟩ (fun r9 h9 => x_runIN hc (c_Str_init hc.g rm_Str_init rk_Str_init _ _ _ h9) md_Str_init hR wd_34 wd_35 rfl ⟨_, rfl⟩ hl.1 ml_Str_init rfl (Nat.le_of_ble_eq_true rfl) d_Src_init_1 ⟨by show 1 + 1 ≤ _; omega, by show 8 + (1 + 11) + (12) ≤ _; omega⟩ ⟨by show 0 + 0 ≤ _; omega, by show 0 + 0 ≤ _; omega⟩) (fun h1 H locs hR hLo heq => ?_)
  refine lv_aload_n hx hb d_Src_init_4 rfl (lv_at hl 0 rfl) ?_
  refine lv_bipush (v := 120) hx hb d_Src_init_5 (by decide) ?_
  refine x_newI hc hR wd_55 (by decide) ⟨by omega, by omega⟩ heq d_Src_init_7 (fun h2 H hR heq => ?_)
  refine x_pV hc hR hLo fl_Src_9 (Or.inr ⟨rfl, rfl⟩) rfl rfl heq d_Src_init_9 (fun h3 H locs hR hLo heq => ?_)
  refine lv_aload_n hx hb d_Src_init_12 rfl (lv_at hl 0 rfl) ?_
  refine lv_bipush (v := 121) hx hb d_Src_init_13 (by decide) ?_
  refine x_newZ hc hR wd_56 (by decide) ⟨by omega, by omega⟩ heq d_Src_init_15 (fun h4 H hR heq => ?_)
  refine x_pV hc hR hLo fl_Src_15 (Or.inr ⟨rfl, rfl⟩) rfl rfl heq d_Src_init_17 (fun h5 H locs hR hLo heq => ?_)
  refine lv_aload_n hx hb d_Src_init_20 rfl (lv_at hl 0 rfl) ?_
  refine lv_bipush (v := 121) hx hb d_Src_init_21 (by decide) ?_
  refine x_newZ hc hR wd_56 (by decide) ⟨by omega, by omega⟩ heq d_Src_init_23 (fun h6 H hR heq => ?_)
  refine x_pV hc hR hLo fl_Src_19 (Or.inr ⟨rfl, rfl⟩) rfl rfl heq d_Src_init_25 (fun h7 H locs hR hLo heq => ?_)
  exact x_vret hc hR hLo ⟨by omega, by omega⟩ heq d_Src_init_28
def rm_Src_init : Room := { frames := 2, cells := 3, slots := 362, locals := 32 }
theorem rk_Src_init : rm_Ok 3 362 2 32 rm_Src_init := ⟨Nat.le_refl _, Nat.le_refl _, Nat.le_refl _, Nat.le_refl _⟩
def f_Src_hasRoomFor_b19 (sv0 : Int32) (h0 : Hs_t) : Rs_t := re_Z sv0 h0
def f_Src_hasRoomFor (t0 : Nat) (x1 : Int32) (h0 : Hs_t) : Rs_t := (fd_I [2] 3 h0 t0).bind fun v1 => (fd_A [2] 0 h0 t0).bind fun v2 => (ln_A h0 v2).bind fun v3 => if v3 < (v1 + x1) then (f_Src_hasRoomFor_b19 0 h0) else (f_Src_hasRoomFor_b19 1 h0)
set_option maxRecDepth 100000 in
set_option maxHeartbeats 4000000 in
theorem k_Src_hasRoomFor_b19 {p : Program} {l : Launch} {e : Env} {s : State} {m : MethodId} {args : Array Value} {below : List Frame} {meth : Method} {c : Code} {s0 : State} {A0 : Array Value} {G : Gx_t} {r : Outcome × Hs_t} {rm : Room} (hc : Cx_t p s m meth c s0 A0 l G y_Src_hasRoomFor b_Src_hasRoomFor 2 (some .boolean) []) (hrm : rm_Ok 0 0 0 0 rm) : ∀ (sv0 : Int32) (h0 : Hs_t) (H : Heap) (locs : List Loc) (ls : Array Slot), Rp_h G s0.heap h0 H → Lo_k s0 locs → lv_has ls 2 [] → f_Src_hasRoomFor_b19 sv0 h0 = some r → W p l e rm s m args below meth c H locs 0 0 (xq_MQ G s0 below r s rm.cells rm.slots) (F0 m 19 ls [.int sv0]) := by
  have hx := hc.x
  have hb := hc.b
  obtain ⟨hm1, hm2, hm3, hm4⟩ := id hrm
  intro sv0 h0 H locs ls hR hLo hl heq
  unfold f_Src_hasRoomFor_b19 at heq
  exact x_zret hc hR hLo ⟨by omega, by omega⟩ heq d_Src_hasRoomFor_19
set_option maxRecDepth 100000 in
set_option maxHeartbeats 4000000 in
theorem c_Src_hasRoomFor {l : Launch} {s0 : State} {A0 : Array Value} {G : Gx_t} (hG : G_0 l s0 A0 G) (rm : Room) (hrm : rm_Ok 0 0 0 0 rm) (t0 : Nat) (x1 : Int32) (h0 : Hs_t) (r : Outcome × Hs_t) (heq : f_Src_hasRoomFor t0 x1 h0 = some r) : M_X G s0 l y_Src_hasRoomFor (.code y_Src_hasRoomFor b_Src_hasRoomFor 2 (some .boolean)) rm [.ref t0, .int x1] h0 r := by
  refine M_X.of (by decide) hG (fun p e s m below meth c H hc hR => ?_)
  have hx := hc.x
  have hb := hc.b
  obtain ⟨hm1, hm2, hm3, hm4⟩ := id hrm
  have hLo : Lo_k s0 [] := fun _ hq => absurd hq List.not_mem_nil
  have hl := lv_entry ([.ref t0, .int x1]) (n := 2) (Nat.le_of_ble_eq_true rfl)
  rw [lg_entry_eq]
  generalize (lg_sl ([.ref t0, .int x1]) ++ List.replicate (2 - (lg_sl ([.ref t0, .int x1])).length) Slot.unset).toArray = ls at hl ⊢
  have hl : lv_has ls 2 [(0, .ref t0), (1, .int x1)] := hl
  generalize hle : ([] : List Loc) = locs at hLo ⊢
  unfold f_Src_hasRoomFor at heq
  refine lv_aload_n hx hb d_Src_hasRoomFor_0 rfl (lv_at hl 0 rfl) ?_
  refine x_gI hc hR fl_Src_22 heq d_Src_hasRoomFor_1 (fun v1 heq => ?_)
  refine lv_iload_n hx hb d_Src_hasRoomFor_4 rfl (lv_at hl 1 rfl) ?_
  refine lv_iadd hx hb d_Src_hasRoomFor_5 ?_
  refine lv_aload_n hx hb d_Src_hasRoomFor_6 rfl (lv_at hl 0 rfl) ?_
  refine x_gA hc hR fl_Src_9 heq d_Src_hasRoomFor_7 (fun v2 heq => ?_)
  refine x_len hc hR heq d_Src_hasRoomFor_10 (fun v3 heq => ?_)
  refine lv_icmp_gt (tgt := 18) hx hb d_Src_hasRoomFor_11 rfl (fun hq => ?_) (fun hq => ?_)
  · rw [if_pos hq] at heq
    refine lv_iconst (v := 0) hx hb d_Src_hasRoomFor_18 (by decide) ?_
    refine W.widen (k := 0) (n := 0) (by omega) (by omega) ?_
    exact k_Src_hasRoomFor_b19 hc hrm 0 h0 H locs ls hR hLo (lv_sub hl [] rfl) heq
  · rw [if_neg hq] at heq
    refine lv_iconst (v := 1) hx hb d_Src_hasRoomFor_14 (by decide) ?_
    refine lv_goto (tgt := 19) hx hb d_Src_hasRoomFor_15 rfl ?_
    refine W.widen (k := 0) (n := 0) (by omega) (by omega) ?_
    exact k_Src_hasRoomFor_b19 hc hrm 1 h0 H locs ls hR hLo (lv_sub hl [] rfl) heq
def rm_Src_hasRoomFor : Room := { frames := 0, cells := 0, slots := 0, locals := 0 }
theorem rk_Src_hasRoomFor : rm_Ok 0 0 0 0 rm_Src_hasRoomFor := ⟨Nat.le_refl _, Nat.le_refl _, Nat.le_refl _, Nat.le_refl _⟩
def f_Src_append_b28 (h0 : Hs_t) : Rs_t := re_V h0
def f_Src_append (t0 : Nat) (x1 : Int32) (h0 : Hs_t) : Rs_t := (ck_T [2] h0 t0).bind fun _ => bd_I (f_Src_hasRoomFor t0 1 h0) (fun v1 h1 => if v1 = 0 then (f_Src_append_b28 h1) else ((fd_A [2] 0 h1 t0).bind fun v2 => (fd_I [2] 3 h1 t0).bind fun v3 => (as_I h1 v2 v3 x1).bind fun h2 => (fd_I [2] 3 h2 t0).bind fun v4 => (pt_V [2] 3 h2 t0 (.int (v4 + 1))).bind fun h3 => f_Src_append_b28 h3))
set_option maxRecDepth 100000 in
set_option maxHeartbeats 4000000 in
theorem k_Src_append_b28 {p : Program} {l : Launch} {e : Env} {s : State} {m : MethodId} {args : Array Value} {below : List Frame} {meth : Method} {c : Code} {s0 : State} {A0 : Array Value} {G : Gx_t} {r : Outcome × Hs_t} {rm : Room} (hc : Cx_t p s m meth c s0 A0 l G y_Src_append b_Src_append 2 none []) (hrm : rm_Ok 0 0 1 21 rm) : ∀  (h0 : Hs_t) (H : Heap) (locs : List Loc) (ls : Array Slot), Rp_h G s0.heap h0 H → Lo_k s0 locs → lv_has ls 2 [] → f_Src_append_b28  h0 = some r → W p l e rm s m args below meth c H locs 0 0 (xq_MQ G s0 below r s rm.cells rm.slots) (F0 m 28 ls []) := by
  have hx := hc.x
  have hb := hc.b
  obtain ⟨hm1, hm2, hm3, hm4⟩ := id hrm
  intro  h0 H locs ls hR hLo hl heq
  unfold f_Src_append_b28 at heq
  exact x_vret hc hR hLo ⟨by omega, by omega⟩ heq d_Src_append_28
set_option maxRecDepth 100000 in
set_option maxHeartbeats 4000000 in
theorem c_Src_append {l : Launch} {s0 : State} {A0 : Array Value} {G : Gx_t} (hG : G_0 l s0 A0 G) (rm : Room) (hrm : rm_Ok 0 0 1 21 rm) (t0 : Nat) (x1 : Int32) (h0 : Hs_t) (r : Outcome × Hs_t) (heq : f_Src_append t0 x1 h0 = some r) : M_X G s0 l y_Src_append (.code y_Src_append b_Src_append 2 none) rm [.ref t0, .int x1] h0 r := by
  refine M_X.of (by decide) hG (fun p e s m below meth c H hc hR => ?_)
  have hx := hc.x
  have hb := hc.b
  obtain ⟨hm1, hm2, hm3, hm4⟩ := id hrm
  have hLo : Lo_k s0 [] := fun _ hq => absurd hq List.not_mem_nil
  have hl := lv_entry ([.ref t0, .int x1]) (n := 2) (Nat.le_of_ble_eq_true rfl)
  rw [lg_entry_eq]
  generalize (lg_sl ([.ref t0, .int x1]) ++ List.replicate (2 - (lg_sl ([.ref t0, .int x1])).length) Slot.unset).toArray = ls at hl ⊢
  have hl : lv_has ls 2 [(0, .ref t0), (1, .int x1)] := hl
  generalize hle : ([] : List Loc) = locs at hLo ⊢
  unfold f_Src_append at heq
  refine lv_aload_n hx hb d_Src_append_0 rfl (lv_at hl 0 rfl) ?_
  refine lv_iconst (v := 1) hx hb d_Src_append_1 (by decide) ?_
  refine x_ck heq (fun tt fs ha ht heq => ?_)
  obtain rfl : tt = 2 := by simpa using ht
  refine x_bI (mc := 0) (ms := 0) (st := []) hc hLo heq ⟨by omega, by omega⟩ (fun r9 h9 => x_runV hc (c_Src_hasRoomFor hc.g rm_Src_hasRoomFor rk_Src_hasRoomFor _ _ _ _ h9) md_Src_hasRoomFor hR ha rfl wd_297 wd_275 wd_276 hl.1 ml_Src_hasRoomFor rfl (Nat.le_of_ble_eq_true rfl) d_Src_append_2 ⟨by show 0 + 1 ≤ _; omega, by show 8 + (2 + 11) + (0) ≤ _; omega⟩ ⟨by show 0 + 0 ≤ _; omega, by show 0 + 0 ≤ _; omega⟩) (fun v1 h1 H locs hR hLo heq => ?_)
  refine lv_if_eq (tgt := 28) hx hb d_Src_append_5 rfl (fun hq => ?_) (fun hq => ?_)
  · rw [if_pos hq] at heq
    refine W.widen (k := 0) (n := 0) (by omega) (by omega) ?_
    exact k_Src_append_b28 hc hrm h1 H locs ls hR hLo (lv_sub hl [] rfl) heq
  · rw [if_neg hq] at heq
    refine lv_aload_n hx hb d_Src_append_8 rfl (lv_at hl 0 rfl) ?_
    refine x_gA hc hR fl_Src_9 heq d_Src_append_9 (fun v2 heq => ?_)
    refine lv_aload_n hx hb d_Src_append_12 rfl (lv_at hl 0 rfl) ?_
    refine x_gI hc hR fl_Src_22 heq d_Src_append_13 (fun v3 heq => ?_)
    refine lv_iload_n hx hb d_Src_append_16 rfl (lv_at hl 1 rfl) ?_
    refine x_sI hc hR hLo heq d_Src_append_17 (fun h2 H locs hR hLo heq => ?_)
    refine lv_aload_n hx hb d_Src_append_18 rfl (lv_at hl 0 rfl) ?_
    refine lv_dup hx hb d_Src_append_19 rfl ?_
    refine x_gI hc hR fl_Src_22 heq d_Src_append_20 (fun v4 heq => ?_)
    refine lv_iconst (v := 1) hx hb d_Src_append_23 (by decide) ?_
    refine lv_iadd hx hb d_Src_append_24 ?_
    refine x_pV hc hR hLo fl_Src_22 (Or.inl rfl) rfl rfl heq d_Src_append_25 (fun h3 H locs hR hLo heq => ?_)
    refine W.widen (k := 0) (n := 0) (by omega) (by omega) ?_
    exact k_Src_append_b28 hc hrm h3 H locs ls hR hLo (lv_sub hl [] rfl) heq
def rm_Src_append : Room := { frames := 1, cells := 0, slots := 0, locals := 21 }
theorem rk_Src_append : rm_Ok 0 0 1 21 rm_Src_append := ⟨Nat.le_refl _, Nat.le_refl _, Nat.le_refl _, Nat.le_refl _⟩
def f_Src_startPortion (t0 : Nat) (h0 : Hs_t) : Rs_t := (fd_A [2] 1 h0 t0).bind fun v1 => (fd_I [2] 3 h0 t0).bind fun v2 => (as_Z h0 v1 v2 1).bind fun h1 => re_V h1
set_option maxRecDepth 100000 in
set_option maxHeartbeats 4000000 in
theorem c_Src_startPortion {l : Launch} {s0 : State} {A0 : Array Value} {G : Gx_t} (hG : G_0 l s0 A0 G) (rm : Room) (hrm : rm_Ok 0 0 0 0 rm) (t0 : Nat) (h0 : Hs_t) (r : Outcome × Hs_t) (heq : f_Src_startPortion t0 h0 = some r) : M_X G s0 l y_Src_startPortion (.code y_Src_startPortion b_Src_startPortion 1 none) rm [.ref t0] h0 r := by
  refine M_X.of (by decide) hG (fun p e s m below meth c H hc hR => ?_)
  have hx := hc.x
  have hb := hc.b
  obtain ⟨hm1, hm2, hm3, hm4⟩ := id hrm
  have hLo : Lo_k s0 [] := fun _ hq => absurd hq List.not_mem_nil
  have hl := lv_entry ([.ref t0]) (n := 1) (Nat.le_of_ble_eq_true rfl)
  rw [lg_entry_eq]
  generalize (lg_sl ([.ref t0]) ++ List.replicate (1 - (lg_sl ([.ref t0])).length) Slot.unset).toArray = ls at hl ⊢
  have hl : lv_has ls 1 [(0, .ref t0)] := hl
  generalize hle : ([] : List Loc) = locs at hLo ⊢
  unfold f_Src_startPortion at heq
  refine lv_aload_n hx hb d_Src_startPortion_0 rfl (lv_at hl 0 rfl) ?_
  refine x_gA hc hR fl_Src_15 heq d_Src_startPortion_1 (fun v1 heq => ?_)
  refine lv_aload_n hx hb d_Src_startPortion_4 rfl (lv_at hl 0 rfl) ?_
  refine x_gI hc hR fl_Src_22 heq d_Src_startPortion_5 (fun v2 heq => ?_)
  refine lv_iconst (v := 1) hx hb d_Src_startPortion_8 (by decide) ?_
  refine x_sZ hc hR hLo heq d_Src_startPortion_9 (fun h1 H locs hR hLo heq => ?_)
  exact x_vret hc hR hLo ⟨by omega, by omega⟩ heq d_Src_startPortion_10
def rm_Src_startPortion : Room := { frames := 0, cells := 0, slots := 0, locals := 0 }
theorem rk_Src_startPortion : rm_Ok 0 0 0 0 rm_Src_startPortion := ⟨Nat.le_refl _, Nat.le_refl _, Nat.le_refl _, Nat.le_refl _⟩
def f_Src_mend_b2 : Nat → Nat → Int32 → Hs_t → Rs_t
  | 0, _, _, _ => none
  | n + 1, t0, x1, h0 => (fd_A [2] 2 h0 t0).bind fun v1 => (ln_A h0 v1).bind fun v2 => if v2 ≤ x1 then (re_V h0) else ((fd_A [2] 2 h0 t0).bind fun v3 => (as_Z h0 v3 x1 0).bind fun h1 => (f_Src_mend_b2 n) t0 (x1 + 1) h1)
def f_Src_mend (t0 : Nat) (h0 : Hs_t) : Rs_t := f_Src_mend_b2 fu_N t0 0 h0
set_option maxRecDepth 100000 in
set_option maxHeartbeats 4000000 in
theorem k_Src_mend_b2 {p : Program} {l : Launch} {e : Env} {s : State} {m : MethodId} {args : Array Value} {below : List Frame} {meth : Method} {c : Code} {s0 : State} {A0 : Array Value} {G : Gx_t} {r : Outcome × Hs_t} {rm : Room} (hc : Cx_t p s m meth c s0 A0 l G y_Src_mend b_Src_mend 2 none []) (hrm : rm_Ok 0 0 0 0 rm) : ∀ (n : Nat) (t0 : Nat) (x1 : Int32) (h0 : Hs_t) (H : Heap) (locs : List Loc) (ls : Array Slot), Rp_h G s0.heap h0 H → Lo_k s0 locs → lv_has ls 2 [(0, .ref t0), (1, .int x1)] → f_Src_mend_b2 n t0 x1 h0 = some r → W p l e rm s m args below meth c H locs 0 0 (xq_MQ G s0 below r s rm.cells rm.slots) (F0 m 2 ls []) := by
  have hx := hc.x
  have hb := hc.b
  obtain ⟨hm1, hm2, hm3, hm4⟩ := id hrm
  intro n
  induction n with
  | zero =>
    intro t0 x1 h0 H locs ls hR hLo hl heq
    unfold f_Src_mend_b2 at heq
    cases heq
  | succ n hr2 =>
    intro t0 x1 h0 H locs ls hR hLo hl heq
    unfold f_Src_mend_b2 at heq
    refine lv_iload_n hx hb d_Src_mend_2 rfl (lv_at hl 1 rfl) ?_
    refine lv_aload_n hx hb d_Src_mend_3 rfl (lv_at hl 0 rfl) ?_
    refine x_gA hc hR fl_Src_19 heq d_Src_mend_4 (fun v1 heq => ?_)
    refine x_len hc hR heq d_Src_mend_7 (fun v2 heq => ?_)
    refine lv_icmp_ge (tgt := 24) hx hb d_Src_mend_8 rfl (fun hq => ?_) (fun hq => ?_)
    · rw [if_pos hq] at heq
      exact x_vret hc hR hLo ⟨by omega, by omega⟩ heq d_Src_mend_24
    · rw [if_neg hq] at heq
      refine lv_aload_n hx hb d_Src_mend_11 rfl (lv_at hl 0 rfl) ?_
      refine x_gA hc hR fl_Src_19 heq d_Src_mend_12 (fun v3 heq => ?_)
      refine lv_iload_n hx hb d_Src_mend_15 rfl (lv_at hl 1 rfl) ?_
      refine lv_iconst (v := 0) hx hb d_Src_mend_16 (by decide) ?_
      refine x_sZ hc hR hLo heq d_Src_mend_17 (fun h1 H locs hR hLo heq => ?_)
      refine lv_iinc (k := 1) (v := (x1 + 1)) (lv' := [(1, .int (x1 + 1)), (0, .ref t0)]) hx hb d_Src_mend_18 hl rfl rfl (by decide) rfl (fun ls hl => ?_)
      refine lv_goto (tgt := 2) hx hb d_Src_mend_21 rfl ?_
      refine W.widen (k := 0) (n := 0) (by omega) (by omega) ?_
      exact hr2 t0 (x1 + 1) h1 H locs ls hR hLo (lv_sub hl [1, 0] rfl) heq
set_option maxRecDepth 100000 in
set_option maxHeartbeats 4000000 in
theorem c_Src_mend {l : Launch} {s0 : State} {A0 : Array Value} {G : Gx_t} (hG : G_0 l s0 A0 G) (rm : Room) (hrm : rm_Ok 0 0 0 0 rm) (t0 : Nat) (h0 : Hs_t) (r : Outcome × Hs_t) (heq : f_Src_mend t0 h0 = some r) : M_X G s0 l y_Src_mend (.code y_Src_mend b_Src_mend 2 none) rm [.ref t0] h0 r := by
  refine M_X.of (by decide) hG (fun p e s m below meth c H hc hR => ?_)
  have hx := hc.x
  have hb := hc.b
  obtain ⟨hm1, hm2, hm3, hm4⟩ := id hrm
  have hLo : Lo_k s0 [] := fun _ hq => absurd hq List.not_mem_nil
  have hl := lv_entry ([.ref t0]) (n := 2) (Nat.le_of_ble_eq_true rfl)
  rw [lg_entry_eq]
  generalize (lg_sl ([.ref t0]) ++ List.replicate (2 - (lg_sl ([.ref t0])).length) Slot.unset).toArray = ls at hl ⊢
  have hl : lv_has ls 2 [(0, .ref t0)] := hl
  generalize hle : ([] : List Loc) = locs at hLo ⊢
  unfold f_Src_mend at heq
  refine lv_iconst (v := 0) hx hb d_Src_mend_0 (by decide) ?_
  refine lv_istore_n (lv' := [(1, .int 0), (0, .ref t0)]) hx hb d_Src_mend_1 rfl hl (by decide) rfl (fun ls hl => ?_)
  refine W.widen (k := 0) (n := 0) (by omega) (by omega) ?_
  exact k_Src_mend_b2 hc hrm fu_N t0 0 h0 H locs ls hR hLo (lv_sub hl [1, 0] rfl) heq
def rm_Src_mend : Room := { frames := 0, cells := 0, slots := 0, locals := 0 }
theorem rk_Src_mend : rm_Ok 0 0 0 0 rm_Src_mend := ⟨Nat.le_refl _, Nat.le_refl _, Nat.le_refl _, Nat.le_refl _⟩
def f_Src_breakPlace_b13 (h0 : Hs_t) : Rs_t := re_Z 0 h0
def f_Src_breakPlace (t0 : Nat) (x1 : Int32) (h0 : Hs_t) : Rs_t := if x1 < 0 then (f_Src_breakPlace_b13 h0) else ((fd_A [2] 2 h0 t0).bind fun v1 => (ln_A h0 v1).bind fun v2 => if x1 < v2 then ((fd_A [2] 2 h0 t0).bind fun v3 => (as_Z h0 v3 x1 1).bind fun h1 => re_Z 1 h1) else (f_Src_breakPlace_b13 h0))
set_option maxRecDepth 100000 in
set_option maxHeartbeats 4000000 in
theorem k_Src_breakPlace_b13 {p : Program} {l : Launch} {e : Env} {s : State} {m : MethodId} {args : Array Value} {below : List Frame} {meth : Method} {c : Code} {s0 : State} {A0 : Array Value} {G : Gx_t} {r : Outcome × Hs_t} {rm : Room} (hc : Cx_t p s m meth c s0 A0 l G y_Src_breakPlace b_Src_breakPlace 2 (some .boolean) []) (hrm : rm_Ok 0 0 0 0 rm) : ∀  (h0 : Hs_t) (H : Heap) (locs : List Loc) (ls : Array Slot), Rp_h G s0.heap h0 H → Lo_k s0 locs → lv_has ls 2 [] → f_Src_breakPlace_b13  h0 = some r → W p l e rm s m args below meth c H locs 0 0 (xq_MQ G s0 below r s rm.cells rm.slots) (F0 m 13 ls []) := by
  have hx := hc.x
  have hb := hc.b
  obtain ⟨hm1, hm2, hm3, hm4⟩ := id hrm
  intro  h0 H locs ls hR hLo hl heq
  unfold f_Src_breakPlace_b13 at heq
  refine lv_iconst (v := 0) hx hb d_Src_breakPlace_13 (by decide) ?_
  exact x_zret hc hR hLo ⟨by omega, by omega⟩ heq d_Src_breakPlace_14
set_option maxRecDepth 100000 in
set_option maxHeartbeats 4000000 in
theorem c_Src_breakPlace {l : Launch} {s0 : State} {A0 : Array Value} {G : Gx_t} (hG : G_0 l s0 A0 G) (rm : Room) (hrm : rm_Ok 0 0 0 0 rm) (t0 : Nat) (x1 : Int32) (h0 : Hs_t) (r : Outcome × Hs_t) (heq : f_Src_breakPlace t0 x1 h0 = some r) : M_X G s0 l y_Src_breakPlace (.code y_Src_breakPlace b_Src_breakPlace 2 (some .boolean)) rm [.ref t0, .int x1] h0 r := by
  refine M_X.of (by decide) hG (fun p e s m below meth c H hc hR => ?_)
  have hx := hc.x
  have hb := hc.b
  obtain ⟨hm1, hm2, hm3, hm4⟩ := id hrm
  have hLo : Lo_k s0 [] := fun _ hq => absurd hq List.not_mem_nil
  have hl := lv_entry ([.ref t0, .int x1]) (n := 2) (Nat.le_of_ble_eq_true rfl)
  rw [lg_entry_eq]
  generalize (lg_sl ([.ref t0, .int x1]) ++ List.replicate (2 - (lg_sl ([.ref t0, .int x1])).length) Slot.unset).toArray = ls at hl ⊢
  have hl : lv_has ls 2 [(0, .ref t0), (1, .int x1)] := hl
  generalize hle : ([] : List Loc) = locs at hLo ⊢
  unfold f_Src_breakPlace at heq
  refine lv_iload_n hx hb d_Src_breakPlace_0 rfl (lv_at hl 1 rfl) ?_
  refine lv_if_lt (tgt := 13) hx hb d_Src_breakPlace_1 rfl (fun hq => ?_) (fun hq => ?_)
  · rw [if_pos hq] at heq
    refine W.widen (k := 0) (n := 0) (by omega) (by omega) ?_
    exact k_Src_breakPlace_b13 hc hrm h0 H locs ls hR hLo (lv_sub hl [] rfl) heq
  · rw [if_neg hq] at heq
    refine lv_iload_n hx hb d_Src_breakPlace_4 rfl (lv_at hl 1 rfl) ?_
    refine lv_aload_n hx hb d_Src_breakPlace_5 rfl (lv_at hl 0 rfl) ?_
    refine x_gA hc hR fl_Src_19 heq d_Src_breakPlace_6 (fun v1 heq => ?_)
    refine x_len hc hR heq d_Src_breakPlace_9 (fun v2 heq => ?_)
    refine lv_icmp_lt (tgt := 15) hx hb d_Src_breakPlace_10 rfl (fun hq => ?_) (fun hq => ?_)
    · rw [if_pos hq] at heq
      refine lv_aload_n hx hb d_Src_breakPlace_15 rfl (lv_at hl 0 rfl) ?_
      refine x_gA hc hR fl_Src_19 heq d_Src_breakPlace_16 (fun v3 heq => ?_)
      refine lv_iload_n hx hb d_Src_breakPlace_19 rfl (lv_at hl 1 rfl) ?_
      refine lv_iconst (v := 1) hx hb d_Src_breakPlace_20 (by decide) ?_
      refine x_sZ hc hR hLo heq d_Src_breakPlace_21 (fun h1 H locs hR hLo heq => ?_)
      refine lv_iconst (v := 1) hx hb d_Src_breakPlace_22 (by decide) ?_
      exact x_zret hc hR hLo ⟨by omega, by omega⟩ heq d_Src_breakPlace_23
    · rw [if_neg hq] at heq
      refine W.widen (k := 0) (n := 0) (by omega) (by omega) ?_
      exact k_Src_breakPlace_b13 hc hrm h0 H locs ls hR hLo (lv_sub hl [] rfl) heq
def rm_Src_breakPlace : Room := { frames := 0, cells := 0, slots := 0, locals := 0 }
theorem rk_Src_breakPlace : rm_Ok 0 0 0 0 rm_Src_breakPlace := ⟨Nat.le_refl _, Nat.le_refl _, Nat.le_refl _, Nat.le_refl _⟩
def f_Src_ready_b36 (t0 : Nat) (x1 : Int32) (h0 : Hs_t) : Rs_t := (fd_I [2] 4 h0 t0).bind fun v6 => re_I (x1 - v6) h0
def f_Src_ready_b30 (r5 : Nat → Int32 → Hs_t → Rs_t) (t0 : Nat) (x1 : Int32) (h0 : Hs_t) : Rs_t := r5 t0 (x1 + 1) h0
def f_Src_ready_b5 : Nat → Nat → Int32 → Hs_t → Rs_t
  | 0, _, _, _ => none
  | n + 1, t0, x1, h0 => (fd_I [2] 3 h0 t0).bind fun v2 => if v2 ≤ x1 then (f_Src_ready_b36 t0 x1 h0) else ((fd_I [2] 4 h0 t0).bind fun v3 => if x1 = v3 then (f_Src_ready_b30 (f_Src_ready_b5 n) t0 x1 h0) else ((fd_A [2] 1 h0 t0).bind fun v4 => (ar_Z h0 v4 x1).bind fun v5 => if v5 = 0 then (f_Src_ready_b30 (f_Src_ready_b5 n) t0 x1 h0) else (f_Src_ready_b36 t0 x1 h0)))
def f_Src_ready (t0 : Nat) (h0 : Hs_t) : Rs_t := (fd_I [2] 4 h0 t0).bind fun v1 => f_Src_ready_b5 fu_N t0 v1 h0
set_option maxRecDepth 100000 in
set_option maxHeartbeats 4000000 in
theorem k_Src_ready_b36 {p : Program} {l : Launch} {e : Env} {s : State} {m : MethodId} {args : Array Value} {below : List Frame} {meth : Method} {c : Code} {s0 : State} {A0 : Array Value} {G : Gx_t} {r : Outcome × Hs_t} {rm : Room} (hc : Cx_t p s m meth c s0 A0 l G y_Src_ready b_Src_ready 2 (some .int) []) (hrm : rm_Ok 0 0 0 0 rm) : ∀ (t0 : Nat) (x1 : Int32) (h0 : Hs_t) (H : Heap) (locs : List Loc) (ls : Array Slot), Rp_h G s0.heap h0 H → Lo_k s0 locs → lv_has ls 2 [(0, .ref t0), (1, .int x1)] → f_Src_ready_b36 t0 x1 h0 = some r → W p l e rm s m args below meth c H locs 0 0 (xq_MQ G s0 below r s rm.cells rm.slots) (F0 m 36 ls []) := by
  have hx := hc.x
  have hb := hc.b
  obtain ⟨hm1, hm2, hm3, hm4⟩ := id hrm
  intro t0 x1 h0 H locs ls hR hLo hl heq
  unfold f_Src_ready_b36 at heq
  refine lv_iload_n hx hb d_Src_ready_36 rfl (lv_at hl 1 rfl) ?_
  refine lv_aload_n hx hb d_Src_ready_37 rfl (lv_at hl 0 rfl) ?_
  refine x_gI hc hR fl_Src_30 heq d_Src_ready_38 (fun v6 heq => ?_)
  refine lv_isub hx hb d_Src_ready_41 ?_
  exact x_iret hc hR hLo ⟨by omega, by omega⟩ heq d_Src_ready_42
set_option maxRecDepth 100000 in
set_option maxHeartbeats 4000000 in
theorem k_Src_ready_b30 {p : Program} {l : Launch} {e : Env} {s : State} {m : MethodId} {args : Array Value} {below : List Frame} {meth : Method} {c : Code} {s0 : State} {A0 : Array Value} {G : Gx_t} {r : Outcome × Hs_t} {rm : Room} (r5 : Nat → Int32 → Hs_t → Rs_t) (hc : Cx_t p s m meth c s0 A0 l G y_Src_ready b_Src_ready 2 (some .int) []) (hrm : rm_Ok 0 0 0 0 rm) (hr5 : ∀ (t0 : Nat) (x1 : Int32) (h0 : Hs_t) (H : Heap) (locs : List Loc) (ls : Array Slot), Rp_h G s0.heap h0 H → Lo_k s0 locs → lv_has ls 2 [(0, .ref t0), (1, .int x1)] → r5 t0 x1 h0 = some r → W p l e rm s m args below meth c H locs 0 0 (xq_MQ G s0 below r s rm.cells rm.slots) (F0 m 5 ls [])) : ∀ (t0 : Nat) (x1 : Int32) (h0 : Hs_t) (H : Heap) (locs : List Loc) (ls : Array Slot), Rp_h G s0.heap h0 H → Lo_k s0 locs → lv_has ls 2 [(0, .ref t0), (1, .int x1)] → f_Src_ready_b30 r5 t0 x1 h0 = some r → W p l e rm s m args below meth c H locs 0 0 (xq_MQ G s0 below r s rm.cells rm.slots) (F0 m 30 ls []) := by
  have hx := hc.x
  have hb := hc.b
  obtain ⟨hm1, hm2, hm3, hm4⟩ := id hrm
  intro t0 x1 h0 H locs ls hR hLo hl heq
  unfold f_Src_ready_b30 at heq
  refine lv_iinc (k := 1) (v := (x1 + 1)) (lv' := [(1, .int (x1 + 1)), (0, .ref t0)]) hx hb d_Src_ready_30 hl rfl rfl (by decide) rfl (fun ls hl => ?_)
  refine lv_goto (tgt := 5) hx hb d_Src_ready_33 rfl ?_
  refine W.widen (k := 0) (n := 0) (by omega) (by omega) ?_
  exact hr5 t0 (x1 + 1) h0 H locs ls hR hLo (lv_sub hl [1, 0] rfl) heq
set_option maxRecDepth 100000 in
set_option maxHeartbeats 4000000 in
theorem k_Src_ready_b5 {p : Program} {l : Launch} {e : Env} {s : State} {m : MethodId} {args : Array Value} {below : List Frame} {meth : Method} {c : Code} {s0 : State} {A0 : Array Value} {G : Gx_t} {r : Outcome × Hs_t} {rm : Room} (hc : Cx_t p s m meth c s0 A0 l G y_Src_ready b_Src_ready 2 (some .int) []) (hrm : rm_Ok 0 0 0 0 rm) : ∀ (n : Nat) (t0 : Nat) (x1 : Int32) (h0 : Hs_t) (H : Heap) (locs : List Loc) (ls : Array Slot), Rp_h G s0.heap h0 H → Lo_k s0 locs → lv_has ls 2 [(0, .ref t0), (1, .int x1)] → f_Src_ready_b5 n t0 x1 h0 = some r → W p l e rm s m args below meth c H locs 0 0 (xq_MQ G s0 below r s rm.cells rm.slots) (F0 m 5 ls []) := by
  have hx := hc.x
  have hb := hc.b
  obtain ⟨hm1, hm2, hm3, hm4⟩ := id hrm
  intro n
  induction n with
  | zero =>
    intro t0 x1 h0 H locs ls hR hLo hl heq
    unfold f_Src_ready_b5 at heq
    cases heq
  | succ n hr5 =>
    intro t0 x1 h0 H locs ls hR hLo hl heq
    unfold f_Src_ready_b5 at heq
    refine lv_iload_n hx hb d_Src_ready_5 rfl (lv_at hl 1 rfl) ?_
    refine lv_aload_n hx hb d_Src_ready_6 rfl (lv_at hl 0 rfl) ?_
    refine x_gI hc hR fl_Src_22 heq d_Src_ready_7 (fun v2 heq => ?_)
    refine lv_icmp_ge (tgt := 36) hx hb d_Src_ready_10 rfl (fun hq => ?_) (fun hq => ?_)
    · rw [if_pos hq] at heq
      refine W.widen (k := 0) (n := 0) (by omega) (by omega) ?_
      exact k_Src_ready_b36 hc hrm t0 x1 h0 H locs ls hR hLo (lv_sub hl [0, 1] rfl) heq
    · rw [if_neg hq] at heq
      refine lv_iload_n hx hb d_Src_ready_13 rfl (lv_at hl 1 rfl) ?_
      refine lv_aload_n hx hb d_Src_ready_14 rfl (lv_at hl 0 rfl) ?_
      refine x_gI hc hR fl_Src_30 heq d_Src_ready_15 (fun v3 heq => ?_)
      refine lv_icmp_eq (tgt := 30) hx hb d_Src_ready_18 rfl (fun hq => ?_) (fun hq => ?_)
      · rw [if_pos hq] at heq
        refine W.widen (k := 0) (n := 0) (by omega) (by omega) ?_
        exact k_Src_ready_b30 _ hc hrm hr5 t0 x1 h0 H locs ls hR hLo (lv_sub hl [0, 1] rfl) heq
      · rw [if_neg hq] at heq
        refine lv_aload_n hx hb d_Src_ready_21 rfl (lv_at hl 0 rfl) ?_
        refine x_gA hc hR fl_Src_15 heq d_Src_ready_22 (fun v4 heq => ?_)
        refine lv_iload_n hx hb d_Src_ready_25 rfl (lv_at hl 1 rfl) ?_
        refine x_aZ hc hR heq d_Src_ready_26 (fun v5 heq => ?_)
        refine lv_if_ne (tgt := 36) hx hb d_Src_ready_27 rfl (fun hq => ?_) (fun hq => ?_)
        · rw [if_neg hq] at heq
          refine W.widen (k := 0) (n := 0) (by omega) (by omega) ?_
          exact k_Src_ready_b36 hc hrm t0 x1 h0 H locs ls hR hLo (lv_sub hl [0, 1] rfl) heq
        · rw [if_pos hq] at heq
          refine W.widen (k := 0) (n := 0) (by omega) (by omega) ?_
          exact k_Src_ready_b30 _ hc hrm hr5 t0 x1 h0 H locs ls hR hLo (lv_sub hl [0, 1] rfl) heq
set_option maxRecDepth 100000 in
set_option maxHeartbeats 4000000 in
theorem c_Src_ready {l : Launch} {s0 : State} {A0 : Array Value} {G : Gx_t} (hG : G_0 l s0 A0 G) (rm : Room) (hrm : rm_Ok 0 0 0 0 rm) (t0 : Nat) (h0 : Hs_t) (r : Outcome × Hs_t) (heq : f_Src_ready t0 h0 = some r) : M_X G s0 l y_Src_ready (.code y_Src_ready b_Src_ready 2 (some .int)) rm [.ref t0] h0 r := by
  refine M_X.of (by decide) hG (fun p e s m below meth c H hc hR => ?_)
  have hx := hc.x
  have hb := hc.b
  obtain ⟨hm1, hm2, hm3, hm4⟩ := id hrm
  have hLo : Lo_k s0 [] := fun _ hq => absurd hq List.not_mem_nil
  have hl := lv_entry ([.ref t0]) (n := 2) (Nat.le_of_ble_eq_true rfl)
  rw [lg_entry_eq]
  generalize (lg_sl ([.ref t0]) ++ List.replicate (2 - (lg_sl ([.ref t0])).length) Slot.unset).toArray = ls at hl ⊢
  have hl : lv_has ls 2 [(0, .ref t0)] := hl
  generalize hle : ([] : List Loc) = locs at hLo ⊢
  unfold f_Src_ready at heq
  refine lv_aload_n hx hb d_Src_ready_0 rfl (lv_at hl 0 rfl) ?_
  refine x_gI hc hR fl_Src_30 heq d_Src_ready_1 (fun v1 heq => ?_)
  refine lv_istore_n (lv' := [(1, .int v1), (0, .ref t0)]) hx hb d_Src_ready_4 rfl hl (by decide) rfl (fun ls hl => ?_)
  refine W.widen (k := 0) (n := 0) (by omega) (by omega) ?_
  exact k_Src_ready_b5 hc hrm fu_N t0 v1 h0 H locs ls hR hLo (lv_sub hl [1, 0] rfl) heq
def rm_Src_ready : Room := { frames := 0, cells := 0, slots := 0, locals := 0 }
theorem rk_Src_ready : rm_Ok 0 0 0 0 rm_Src_ready := ⟨Nat.le_refl _, Nat.le_refl _, Nat.le_refl _, Nat.le_refl _⟩
def f_Src_answer (t0 : Nat) (x1 : Int32) (x2 : Nat) (x3 : Int32) (h0 : Hs_t) : Rs_t := (fd_A [2] 2 h0 t0).bind fun v1 => (fd_I [2] 4 h0 t0).bind fun v2 => (ar_Z h0 v1 v2).bind fun v3 => if v3 = 0 then ((ck_T [2] h0 t0).bind fun _ => bd_I (f_Src_ready t0 h0) (fun v4 h1 => (fd_A [2] 0 h1 t0).bind fun v5 => (fd_I [2] 4 h1 t0).bind fun v6 => (cp_I h1 v5 v6 x2 x3 (if v4 < x1 then v4 else x1)).bind fun h2 => (fd_I [2] 4 h2 t0).bind fun v7 => (pt_V [2] 4 h2 t0 (.int (v7 + (if v4 < x1 then v4 else x1)))).bind fun h3 => re_I (if v4 < x1 then v4 else x1) h3)) else (re_I (-1) h0)
set_option maxRecDepth 100000 in
set_option maxHeartbeats 4000000 in
theorem c_Src_answer {l : Launch} {s0 : State} {A0 : Array Value} {G : Gx_t} (hG : G_0 l s0 A0 G) (rm : Room) (hrm : rm_Ok 0 0 1 40 rm) (t0 : Nat) (x1 : Int32) (x2 : Nat) (x3 : Int32) (h0 : Hs_t) (r : Outcome × Hs_t) (heq : f_Src_answer t0 x1 x2 x3 h0 = some r) : M_X G s0 l y_Src_answer (.code y_Src_answer b_Src_answer 5 (some .int)) rm [.ref t0, .int x1, .ref x2, .int x3] h0 r := by
  refine M_X.of (by decide) hG (fun p e s m below meth c H hc hR => ?_)
  have hx := hc.x
  have hb := hc.b
  obtain ⟨hm1, hm2, hm3, hm4⟩ := id hrm
  have hLo : Lo_k s0 [] := fun _ hq => absurd hq List.not_mem_nil
  have hl := lv_entry ([.ref t0, .int x1, .ref x2, .int x3]) (n := 5) (Nat.le_of_ble_eq_true rfl)
  rw [lg_entry_eq]
  generalize (lg_sl ([.ref t0, .int x1, .ref x2, .int x3]) ++ List.replicate (5 - (lg_sl ([.ref t0, .int x1, .ref x2, .int x3])).length) Slot.unset).toArray = ls at hl ⊢
  have hl : lv_has ls 5 [(0, .ref t0), (1, .int x1), (2, .ref x2), (3, .int x3)] := hl
  generalize hle : ([] : List Loc) = locs at hLo ⊢
  unfold f_Src_answer at heq
  refine lv_aload_n hx hb d_Src_answer_0 rfl (lv_at hl 0 rfl) ?_
  refine x_gA hc hR fl_Src_19 heq d_Src_answer_1 (fun v1 heq => ?_)
  refine lv_aload_n hx hb d_Src_answer_4 rfl (lv_at hl 0 rfl) ?_
  refine x_gI hc hR fl_Src_30 heq d_Src_answer_5 (fun v2 heq => ?_)
  refine x_aZ hc hR heq d_Src_answer_8 (fun v3 heq => ?_)
  refine lv_if_eq (tgt := 14) hx hb d_Src_answer_9 rfl (fun hq => ?_) (fun hq => ?_)
  · rw [if_pos hq] at heq
    refine lv_iload_n hx hb d_Src_answer_14 rfl (lv_at hl 1 rfl) ?_
    refine lv_aload_n hx hb d_Src_answer_15 rfl (lv_at hl 0 rfl) ?_
    refine x_ck heq (fun tt fs ha ht heq => ?_)
    obtain rfl : tt = 2 := by simpa using ht
    refine x_bI (mc := 0) (ms := 0) (st := [.int x1]) hc hLo heq ⟨by omega, by omega⟩ (fun r9 h9 => x_runV hc (c_Src_ready hc.g rm_Src_ready rk_Src_ready _ _ _ h9) md_Src_ready hR ha rfl wd_464 wd_144 wd_947 hl.1 ml_Src_ready rfl (Nat.le_of_ble_eq_true rfl) d_Src_answer_16 ⟨by show 0 + 1 ≤ _; omega, by show 8 + (2 + 11) + (0) ≤ _; omega⟩ ⟨by show 0 + 0 ≤ _; omega, by show 0 + 0 ≤ _; omega⟩) (fun v4 h1 H locs hR hLo heq => ?_)
    refine x_min hc hl.1 wd_465 wd_147 wd_17 wd_148 (by omega) (by show 0 + 13 ≤ _; omega) ⟨by omega, by omega⟩ d_Src_answer_19 ?_
    refine lv_istore (lv' := [(4, .int (if v4 < x1 then v4 else x1)), (0, .ref t0), (1, .int x1), (2, .ref x2), (3, .int x3)]) hx hb d_Src_answer_22 hl (by decide) rfl (fun ls hl => ?_)
    refine lv_aload_n hx hb d_Src_answer_24 rfl (lv_at hl 1 rfl) ?_
    refine x_gA hc hR fl_Src_9 heq d_Src_answer_25 (fun v5 heq => ?_)
    refine lv_aload_n hx hb d_Src_answer_28 rfl (lv_at hl 1 rfl) ?_
    refine x_gI hc hR fl_Src_30 heq d_Src_answer_29 (fun v6 heq => ?_)
    refine lv_aload_n hx hb d_Src_answer_32 rfl (lv_at hl 3 rfl) ?_
    refine lv_iload_n hx hb d_Src_answer_33 rfl (lv_at hl 4 rfl) ?_
    refine lv_iload hx hb d_Src_answer_34 (lv_at hl 0 rfl) ?_
    refine x_cpI hc hR hLo hl.1 wd_466 wd_468 wd_467 wd_18 (by omega) (by show 0 + (nativeFrameWords "java/lang/System" "arraycopy" 5 + 11) ≤ _; have := cp_w; omega) heq d_Src_answer_36 (fun h2 H locs hR hLo heq => ?_)
    refine lv_aload_n hx hb d_Src_answer_39 rfl (lv_at hl 1 rfl) ?_
    refine lv_dup hx hb d_Src_answer_40 rfl ?_
    refine x_gI hc hR fl_Src_30 heq d_Src_answer_41 (fun v7 heq => ?_)
    refine lv_iload hx hb d_Src_answer_44 (lv_at hl 0 rfl) ?_
    refine lv_iadd hx hb d_Src_answer_46 ?_
    refine x_pV hc hR hLo fl_Src_30 (Or.inl rfl) rfl rfl heq d_Src_answer_47 (fun h3 H locs hR hLo heq => ?_)
    refine lv_iload hx hb d_Src_answer_50 (lv_at hl 0 rfl) ?_
    exact x_iret hc hR hLo ⟨by omega, by omega⟩ heq d_Src_answer_52
  · rw [if_neg hq] at heq
    refine lv_iconst (v := (-1)) hx hb d_Src_answer_12 (by decide) ?_
    exact x_iret hc hR hLo ⟨by omega, by omega⟩ heq d_Src_answer_13
def rm_Src_answer : Room := { frames := 1, cells := 0, slots := 0, locals := 40 }
theorem rk_Src_answer : rm_Ok 0 0 1 40 rm_Src_answer := ⟨Nat.le_refl _, Nat.le_refl _, Nat.le_refl _, Nat.le_refl _⟩
def f_Src_state (t0 : Nat) (h0 : Hs_t) : Rs_t := (fd_I [2] 4 h0 t0).bind fun v1 => re_I v1 h0
set_option maxRecDepth 100000 in
set_option maxHeartbeats 4000000 in
theorem c_Src_state {l : Launch} {s0 : State} {A0 : Array Value} {G : Gx_t} (hG : G_0 l s0 A0 G) (rm : Room) (hrm : rm_Ok 0 0 0 0 rm) (t0 : Nat) (h0 : Hs_t) (r : Outcome × Hs_t) (heq : f_Src_state t0 h0 = some r) : M_X G s0 l y_Src_state (.code y_Src_state b_Src_state 1 (some .int)) rm [.ref t0] h0 r := by
  refine M_X.of (by decide) hG (fun p e s m below meth c H hc hR => ?_)
  have hx := hc.x
  have hb := hc.b
  obtain ⟨hm1, hm2, hm3, hm4⟩ := id hrm
  have hLo : Lo_k s0 [] := fun _ hq => absurd hq List.not_mem_nil
  have hl := lv_entry ([.ref t0]) (n := 1) (Nat.le_of_ble_eq_true rfl)
  rw [lg_entry_eq]
  generalize (lg_sl ([.ref t0]) ++ List.replicate (1 - (lg_sl ([.ref t0])).length) Slot.unset).toArray = ls at hl ⊢
  have hl : lv_has ls 1 [(0, .ref t0)] := hl
  generalize hle : ([] : List Loc) = locs at hLo ⊢
  unfold f_Src_state at heq
  refine lv_aload_n hx hb d_Src_state_0 rfl (lv_at hl 0 rfl) ?_
  refine x_gI hc hR fl_Src_30 heq d_Src_state_1 (fun v1 heq => ?_)
  exact x_iret hc hR hLo ⟨by omega, by omega⟩ heq d_Src_state_4
def rm_Src_state : Room := { frames := 0, cells := 0, slots := 0, locals := 0 }
theorem rk_Src_state : rm_Ok 0 0 0 0 rm_Src_state := ⟨Nat.le_refl _, Nat.le_refl _, Nat.le_refl _, Nat.le_refl _⟩
def f_Str_canBeMarked (t0 : Nat) (h0 : Hs_t) : Rs_t := re_Z 0 h0
set_option maxRecDepth 100000 in
set_option maxHeartbeats 4000000 in
theorem c_Str_canBeMarked {l : Launch} {s0 : State} {A0 : Array Value} {G : Gx_t} (hG : G_0 l s0 A0 G) (rm : Room) (hrm : rm_Ok 0 0 0 0 rm) (t0 : Nat) (h0 : Hs_t) (r : Outcome × Hs_t) (heq : f_Str_canBeMarked t0 h0 = some r) : M_X G s0 l y_Str_canBeMarked (.code y_Str_canBeMarked b_Str_canBeMarked 1 (some .boolean)) rm [.ref t0] h0 r := by
  refine M_X.of (by decide) hG (fun p e s m below meth c H hc hR => ?_)
  have hx := hc.x
  have hb := hc.b
  obtain ⟨hm1, hm2, hm3, hm4⟩ := id hrm
  have hLo : Lo_k s0 [] := fun _ hq => absurd hq List.not_mem_nil
  have hl := lv_entry ([.ref t0]) (n := 1) (Nat.le_of_ble_eq_true rfl)
  rw [lg_entry_eq]
  generalize (lg_sl ([.ref t0]) ++ List.replicate (1 - (lg_sl ([.ref t0])).length) Slot.unset).toArray = ls at hl ⊢
  have hl : lv_has ls 1 [(0, .ref t0)] := hl
  generalize hle : ([] : List Loc) = locs at hLo ⊢
  unfold f_Str_canBeMarked at heq
  refine lv_iconst (v := 0) hx hb d_Str_canBeMarked_0 (by decide) ?_
  exact x_zret hc hR hLo ⟨by omega, by omega⟩ heq d_Str_canBeMarked_1
def rm_Str_canBeMarked : Room := { frames := 0, cells := 0, slots := 0, locals := 0 }
theorem rk_Str_canBeMarked : rm_Ok 0 0 0 0 rm_Str_canBeMarked := ⟨Nat.le_refl _, Nat.le_refl _, Nat.le_refl _, Nat.le_refl _⟩
def f_Str_hasMark (t0 : Nat) (h0 : Hs_t) : Rs_t := re_Z 0 h0
set_option maxRecDepth 100000 in
set_option maxHeartbeats 4000000 in
theorem c_Str_hasMark {l : Launch} {s0 : State} {A0 : Array Value} {G : Gx_t} (hG : G_0 l s0 A0 G) (rm : Room) (hrm : rm_Ok 0 0 0 0 rm) (t0 : Nat) (h0 : Hs_t) (r : Outcome × Hs_t) (heq : f_Str_hasMark t0 h0 = some r) : M_X G s0 l y_Str_hasMark (.code y_Str_hasMark b_Str_hasMark 1 (some .boolean)) rm [.ref t0] h0 r := by
  refine M_X.of (by decide) hG (fun p e s m below meth c H hc hR => ?_)
  have hx := hc.x
  have hb := hc.b
  obtain ⟨hm1, hm2, hm3, hm4⟩ := id hrm
  have hLo : Lo_k s0 [] := fun _ hq => absurd hq List.not_mem_nil
  have hl := lv_entry ([.ref t0]) (n := 1) (Nat.le_of_ble_eq_true rfl)
  rw [lg_entry_eq]
  generalize (lg_sl ([.ref t0]) ++ List.replicate (1 - (lg_sl ([.ref t0])).length) Slot.unset).toArray = ls at hl ⊢
  have hl : lv_has ls 1 [(0, .ref t0)] := hl
  generalize hle : ([] : List Loc) = locs at hLo ⊢
  unfold f_Str_hasMark at heq
  refine lv_iconst (v := 0) hx hb d_Str_hasMark_0 (by decide) ?_
  exact x_zret hc hR hLo ⟨by omega, by omega⟩ heq d_Str_hasMark_1
def rm_Str_hasMark : Room := { frames := 0, cells := 0, slots := 0, locals := 0 }
theorem rk_Str_hasMark : rm_Ok 0 0 0 0 rm_Str_hasMark := ⟨Nat.le_refl _, Nat.le_refl _, Nat.le_refl _, Nat.le_refl _⟩
def f_Str_takeMark (t0 : Nat) (x1 : Int32) (h0 : Hs_t) : Rs_t := re_V h0
set_option maxRecDepth 100000 in
set_option maxHeartbeats 4000000 in
theorem c_Str_takeMark {l : Launch} {s0 : State} {A0 : Array Value} {G : Gx_t} (hG : G_0 l s0 A0 G) (rm : Room) (hrm : rm_Ok 0 0 0 0 rm) (t0 : Nat) (x1 : Int32) (h0 : Hs_t) (r : Outcome × Hs_t) (heq : f_Str_takeMark t0 x1 h0 = some r) : M_X G s0 l y_Str_takeMark (.code y_Str_takeMark b_Str_takeMark 2 none) rm [.ref t0, .int x1] h0 r := by
  refine M_X.of (by decide) hG (fun p e s m below meth c H hc hR => ?_)
  have hx := hc.x
  have hb := hc.b
  obtain ⟨hm1, hm2, hm3, hm4⟩ := id hrm
  have hLo : Lo_k s0 [] := fun _ hq => absurd hq List.not_mem_nil
  have hl := lv_entry ([.ref t0, .int x1]) (n := 2) (Nat.le_of_ble_eq_true rfl)
  rw [lg_entry_eq]
  generalize (lg_sl ([.ref t0, .int x1]) ++ List.replicate (2 - (lg_sl ([.ref t0, .int x1])).length) Slot.unset).toArray = ls at hl ⊢
  have hl : lv_has ls 2 [(0, .ref t0), (1, .int x1)] := hl
  generalize hle : ([] : List Loc) = locs at hLo ⊢
  unfold f_Str_takeMark at heq
  exact x_vret hc hR hLo ⟨by omega, by omega⟩ heq d_Str_takeMark_0
def rm_Str_takeMark : Room := { frames := 0, cells := 0, slots := 0, locals := 0 }
theorem rk_Str_takeMark : rm_Ok 0 0 0 0 rm_Str_takeMark := ⟨Nat.le_refl _, Nat.le_refl _, Nat.le_refl _, Nat.le_refl _⟩
def f_Str_goBack (t0 : Nat) (h0 : Hs_t) : Rs_t := re_V h0
set_option maxRecDepth 100000 in
set_option maxHeartbeats 4000000 in
theorem c_Str_goBack {l : Launch} {s0 : State} {A0 : Array Value} {G : Gx_t} (hG : G_0 l s0 A0 G) (rm : Room) (hrm : rm_Ok 0 0 0 0 rm) (t0 : Nat) (h0 : Hs_t) (r : Outcome × Hs_t) (heq : f_Str_goBack t0 h0 = some r) : M_X G s0 l y_Str_goBack (.code y_Str_goBack b_Str_goBack 1 none) rm [.ref t0] h0 r := by
  refine M_X.of (by decide) hG (fun p e s m below meth c H hc hR => ?_)
  have hx := hc.x
  have hb := hc.b
  obtain ⟨hm1, hm2, hm3, hm4⟩ := id hrm
  have hLo : Lo_k s0 [] := fun _ hq => absurd hq List.not_mem_nil
  have hl := lv_entry ([.ref t0]) (n := 1) (Nat.le_of_ble_eq_true rfl)
  rw [lg_entry_eq]
  generalize (lg_sl ([.ref t0]) ++ List.replicate (1 - (lg_sl ([.ref t0])).length) Slot.unset).toArray = ls at hl ⊢
  have hl : lv_has ls 1 [(0, .ref t0)] := hl
  generalize hle : ([] : List Loc) = locs at hLo ⊢
  unfold f_Str_goBack at heq
  exact x_vret hc hR hLo ⟨by omega, by omega⟩ heq d_Str_goBack_0
def rm_Str_goBack : Room := { frames := 0, cells := 0, slots := 0, locals := 0 }
theorem rk_Str_goBack : rm_Ok 0 0 0 0 rm_Str_goBack := ⟨Nat.le_refl _, Nat.le_refl _, Nat.le_refl _, Nat.le_refl _⟩
end
section
theorem d_Buf_init_0 : decode b_Buf_init 0 = .ok (.aload_n 0, 1) := by decide +kernel
theorem d_Buf_init_1 : decode b_Buf_init 1 = .ok (.invokespecial 3, 3) := by decide +kernel
theorem d_Buf_init_4 : decode b_Buf_init 4 = .ok (.aload_n 0, 1) := by decide +kernel
theorem d_Buf_init_5 : decode b_Buf_init 5 = .ok (.aload_n 1, 1) := by decide +kernel
theorem d_Buf_init_6 : decode b_Buf_init 6 = .ok (.putfield 9, 3) := by decide +kernel
theorem d_Buf_init_9 : decode b_Buf_init 9 = .ok (.aload_n 0, 1) := by decide +kernel
theorem d_Buf_init_10 : decode b_Buf_init 10 = .ok (.iload_n 2, 1) := by decide +kernel
theorem d_Buf_init_11 : decode b_Buf_init 11 = .ok (.putfield 15, 3) := by decide +kernel
theorem d_Buf_init_14 : decode b_Buf_init 14 = .ok (.aload_n 0, 1) := by decide +kernel
theorem d_Buf_init_15 : decode b_Buf_init 15 = .ok (.bipush 32, 2) := by decide +kernel
theorem d_Buf_init_17 : decode b_Buf_init 17 = .ok (.iload_n 2, 1) := by decide +kernel
theorem d_Buf_init_18 : decode b_Buf_init 18 = .ok (.iadd, 1) := by decide +kernel
theorem d_Buf_init_19 : decode b_Buf_init 19 = .ok (.newarray .int, 2) := by decide +kernel
theorem d_Buf_init_21 : decode b_Buf_init 21 = .ok (.putfield 19, 3) := by decide +kernel
theorem d_Buf_init_24 : decode b_Buf_init 24 = .ok (.return_, 1) := by decide +kernel
theorem d_Buf_fill_0 : decode b_Buf_fill 0 = .ok (.aload_n 0, 1) := by decide +kernel
theorem d_Buf_fill_1 : decode b_Buf_fill 1 = .ok (.getfield 19, 3) := by decide +kernel
theorem d_Buf_fill_4 : decode b_Buf_fill 4 = .ok (.aload_n 0, 1) := by decide +kernel
theorem d_Buf_fill_5 : decode b_Buf_fill 5 = .ok (.getfield 56, 3) := by decide +kernel
theorem d_Buf_fill_8 : decode b_Buf_fill 8 = .ok (.aload_n 0, 1) := by decide +kernel
theorem d_Buf_fill_9 : decode b_Buf_fill 9 = .ok (.getfield 19, 3) := by decide +kernel
theorem d_Buf_fill_12 : decode b_Buf_fill 12 = .ok (.iconst 0, 1) := by decide +kernel
theorem d_Buf_fill_13 : decode b_Buf_fill 13 = .ok (.aload_n 0, 1) := by decide +kernel
theorem d_Buf_fill_14 : decode b_Buf_fill 14 = .ok (.getfield 23, 3) := by decide +kernel
theorem d_Buf_fill_17 : decode b_Buf_fill 17 = .ok (.aload_n 0, 1) := by decide +kernel
theorem d_Buf_fill_18 : decode b_Buf_fill 18 = .ok (.getfield 56, 3) := by decide +kernel
theorem d_Buf_fill_21 : decode b_Buf_fill 21 = .ok (.isub, 1) := by decide +kernel
theorem d_Buf_fill_22 : decode b_Buf_fill 22 = .ok (.invokestatic 47, 3) := by decide +kernel
theorem d_Buf_fill_25 : decode b_Buf_fill 25 = .ok (.aload_n 0, 1) := by decide +kernel
theorem d_Buf_fill_26 : decode b_Buf_fill 26 = .ok (.dup, 1) := by decide +kernel
theorem d_Buf_fill_27 : decode b_Buf_fill 27 = .ok (.getfield 23, 3) := by decide +kernel
theorem d_Buf_fill_30 : decode b_Buf_fill 30 = .ok (.aload_n 0, 1) := by decide +kernel
theorem d_Buf_fill_31 : decode b_Buf_fill 31 = .ok (.getfield 56, 3) := by decide +kernel
theorem d_Buf_fill_34 : decode b_Buf_fill 34 = .ok (.isub, 1) := by decide +kernel
theorem d_Buf_fill_35 : decode b_Buf_fill 35 = .ok (.putfield 23, 3) := by decide +kernel
theorem d_Buf_fill_38 : decode b_Buf_fill 38 = .ok (.aload_n 0, 1) := by decide +kernel
theorem d_Buf_fill_39 : decode b_Buf_fill 39 = .ok (.aload_n 0, 1) := by decide +kernel
theorem d_Buf_fill_40 : decode b_Buf_fill 40 = .ok (.getfield 23, 3) := by decide +kernel
theorem d_Buf_fill_43 : decode b_Buf_fill 43 = .ok (.putfield 26, 3) := by decide +kernel
theorem d_Buf_fill_46 : decode b_Buf_fill 46 = .ok (.aload_n 0, 1) := by decide +kernel
theorem d_Buf_fill_47 : decode b_Buf_fill 47 = .ok (.iconst 0, 1) := by decide +kernel
theorem d_Buf_fill_48 : decode b_Buf_fill 48 = .ok (.putfield 56, 3) := by decide +kernel
theorem d_Buf_fill_51 : decode b_Buf_fill 51 = .ok (.aload_n 0, 1) := by decide +kernel
theorem d_Buf_fill_52 : decode b_Buf_fill 52 = .ok (.getfield 9, 3) := by decide +kernel
theorem d_Buf_fill_55 : decode b_Buf_fill 55 = .ok (.aload_n 0, 1) := by decide +kernel
theorem d_Buf_fill_56 : decode b_Buf_fill 56 = .ok (.getfield 15, 3) := by decide +kernel
theorem d_Buf_fill_59 : decode b_Buf_fill 59 = .ok (.aload_n 0, 1) := by decide +kernel
theorem d_Buf_fill_60 : decode b_Buf_fill 60 = .ok (.getfield 19, 3) := by decide +kernel
theorem d_Buf_fill_63 : decode b_Buf_fill 63 = .ok (.aload_n 0, 1) := by decide +kernel
theorem d_Buf_fill_64 : decode b_Buf_fill 64 = .ok (.getfield 26, 3) := by decide +kernel
theorem d_Buf_fill_67 : decode b_Buf_fill 67 = .ok (.invokevirtual 33, 3) := by decide +kernel
theorem d_Buf_fill_70 : decode b_Buf_fill 70 = .ok (.istore_n 1, 1) := by decide +kernel
theorem d_Buf_fill_71 : decode b_Buf_fill 71 = .ok (.iload_n 1, 1) := by decide +kernel
theorem d_Buf_fill_72 : decode b_Buf_fill 72 = .ok (.iconst (-1), 1) := by decide +kernel
theorem d_Buf_fill_73 : decode b_Buf_fill 73 = .ok (.if_icmp .eq 13, 3) := by decide +kernel
theorem d_Buf_fill_76 : decode b_Buf_fill 76 = .ok (.aload_n 0, 1) := by decide +kernel
theorem d_Buf_fill_77 : decode b_Buf_fill 77 = .ok (.dup, 1) := by decide +kernel
theorem d_Buf_fill_78 : decode b_Buf_fill 78 = .ok (.getfield 26, 3) := by decide +kernel
theorem d_Buf_fill_81 : decode b_Buf_fill 81 = .ok (.iload_n 1, 1) := by decide +kernel
theorem d_Buf_fill_82 : decode b_Buf_fill 82 = .ok (.iadd, 1) := by decide +kernel
theorem d_Buf_fill_83 : decode b_Buf_fill 83 = .ok (.putfield 26, 3) := by decide +kernel
theorem d_Buf_fill_86 : decode b_Buf_fill 86 = .ok (.iload_n 1, 1) := by decide +kernel
theorem d_Buf_fill_87 : decode b_Buf_fill 87 = .ok (.ireturn, 1) := by decide +kernel
theorem d_Buf_forgetWhatNoMarkKeeps_0 : decode b_Buf_forgetWhatNoMarkKeeps 0 = .ok (.aload_n 0, 1) := by decide +kernel
theorem d_Buf_forgetWhatNoMarkKeeps_1 : decode b_Buf_forgetWhatNoMarkKeeps 1 = .ok (.getfield 23, 3) := by decide +kernel
theorem d_Buf_forgetWhatNoMarkKeeps_4 : decode b_Buf_forgetWhatNoMarkKeeps 4 = .ok (.aload_n 0, 1) := by decide +kernel
theorem d_Buf_forgetWhatNoMarkKeeps_5 : decode b_Buf_forgetWhatNoMarkKeeps 5 = .ok (.getfield 56, 3) := by decide +kernel
theorem d_Buf_forgetWhatNoMarkKeeps_8 : decode b_Buf_forgetWhatNoMarkKeeps 8 = .ok (.isub, 1) := by decide +kernel
theorem d_Buf_forgetWhatNoMarkKeeps_9 : decode b_Buf_forgetWhatNoMarkKeeps 9 = .ok (.aload_n 0, 1) := by decide +kernel
theorem d_Buf_forgetWhatNoMarkKeeps_10 : decode b_Buf_forgetWhatNoMarkKeeps 10 = .ok (.getfield 59, 3) := by decide +kernel
theorem d_Buf_forgetWhatNoMarkKeeps_13 : decode b_Buf_forgetWhatNoMarkKeeps 13 = .ok (.if_icmp .le 8, 3) := by decide +kernel
theorem d_Buf_forgetWhatNoMarkKeeps_16 : decode b_Buf_forgetWhatNoMarkKeeps 16 = .ok (.aload_n 0, 1) := by decide +kernel
theorem d_Buf_forgetWhatNoMarkKeeps_17 : decode b_Buf_forgetWhatNoMarkKeeps 17 = .ok (.iconst 0, 1) := by decide +kernel
theorem d_Buf_forgetWhatNoMarkKeeps_18 : decode b_Buf_forgetWhatNoMarkKeeps 18 = .ok (.putfield 29, 3) := by decide +kernel
theorem d_Buf_forgetWhatNoMarkKeeps_21 : decode b_Buf_forgetWhatNoMarkKeeps 21 = .ok (.aload_n 0, 1) := by decide +kernel
theorem d_Buf_forgetWhatNoMarkKeeps_22 : decode b_Buf_forgetWhatNoMarkKeeps 22 = .ok (.getfield 29, 3) := by decide +kernel
theorem d_Buf_forgetWhatNoMarkKeeps_25 : decode b_Buf_forgetWhatNoMarkKeeps 25 = .ok (.ifCond .ne 11, 3) := by decide +kernel
theorem d_Buf_forgetWhatNoMarkKeeps_28 : decode b_Buf_forgetWhatNoMarkKeeps 28 = .ok (.aload_n 0, 1) := by decide +kernel
theorem d_Buf_forgetWhatNoMarkKeeps_29 : decode b_Buf_forgetWhatNoMarkKeeps 29 = .ok (.aload_n 0, 1) := by decide +kernel
theorem d_Buf_forgetWhatNoMarkKeeps_30 : decode b_Buf_forgetWhatNoMarkKeeps 30 = .ok (.getfield 23, 3) := by decide +kernel
theorem d_Buf_forgetWhatNoMarkKeeps_33 : decode b_Buf_forgetWhatNoMarkKeeps 33 = .ok (.putfield 56, 3) := by decide +kernel
theorem d_Buf_forgetWhatNoMarkKeeps_36 : decode b_Buf_forgetWhatNoMarkKeeps 36 = .ok (.return_, 1) := by decide +kernel
theorem d_Buf_answer_0 : decode b_Buf_answer 0 = .ok (.aload_n 0, 1) := by decide +kernel
theorem d_Buf_answer_1 : decode b_Buf_answer 1 = .ok (.getfield 23, 3) := by decide +kernel
theorem d_Buf_answer_4 : decode b_Buf_answer 4 = .ok (.aload_n 0, 1) := by decide +kernel
theorem d_Buf_answer_5 : decode b_Buf_answer 5 = .ok (.getfield 26, 3) := by decide +kernel
theorem d_Buf_answer_8 : decode b_Buf_answer 8 = .ok (.if_icmp .ne 49, 3) := by decide +kernel
theorem d_Buf_answer_11 : decode b_Buf_answer 11 = .ok (.iload_n 1, 1) := by decide +kernel
theorem d_Buf_answer_12 : decode b_Buf_answer 12 = .ok (.aload_n 0, 1) := by decide +kernel
theorem d_Buf_answer_13 : decode b_Buf_answer 13 = .ok (.getfield 15, 3) := by decide +kernel
theorem d_Buf_answer_16 : decode b_Buf_answer 16 = .ok (.if_icmp .lt 21, 3) := by decide +kernel
theorem d_Buf_answer_19 : decode b_Buf_answer 19 = .ok (.aload_n 0, 1) := by decide +kernel
theorem d_Buf_answer_20 : decode b_Buf_answer 20 = .ok (.getfield 29, 3) := by decide +kernel
theorem d_Buf_answer_23 : decode b_Buf_answer 23 = .ok (.ifCond .ne 14, 3) := by decide +kernel
theorem d_Buf_answer_26 : decode b_Buf_answer 26 = .ok (.aload_n 0, 1) := by decide +kernel
theorem d_Buf_answer_27 : decode b_Buf_answer 27 = .ok (.getfield 9, 3) := by decide +kernel
theorem d_Buf_answer_30 : decode b_Buf_answer 30 = .ok (.iload_n 1, 1) := by decide +kernel
theorem d_Buf_answer_31 : decode b_Buf_answer 31 = .ok (.aload_n 2, 1) := by decide +kernel
theorem d_Buf_answer_32 : decode b_Buf_answer 32 = .ok (.iload_n 3, 1) := by decide +kernel
theorem d_Buf_answer_33 : decode b_Buf_answer 33 = .ok (.invokevirtual 33, 3) := by decide +kernel
theorem d_Buf_answer_36 : decode b_Buf_answer 36 = .ok (.ireturn, 1) := by decide +kernel
theorem d_Buf_answer_37 : decode b_Buf_answer 37 = .ok (.aload_n 0, 1) := by decide +kernel
theorem d_Buf_answer_38 : decode b_Buf_answer 38 = .ok (.invokevirtual 37, 3) := by decide +kernel
theorem d_Buf_answer_41 : decode b_Buf_answer 41 = .ok (.istore 4, 2) := by decide +kernel
theorem d_Buf_answer_43 : decode b_Buf_answer 43 = .ok (.iload 4, 2) := by decide +kernel
theorem d_Buf_answer_45 : decode b_Buf_answer 45 = .ok (.iconst (-1), 1) := by decide +kernel
theorem d_Buf_answer_46 : decode b_Buf_answer 46 = .ok (.if_icmp .eq 8, 3) := by decide +kernel
theorem d_Buf_answer_49 : decode b_Buf_answer 49 = .ok (.iload 4, 2) := by decide +kernel
theorem d_Buf_answer_51 : decode b_Buf_answer 51 = .ok (.ifCond .ne 6, 3) := by decide +kernel
theorem d_Buf_answer_54 : decode b_Buf_answer 54 = .ok (.iload 4, 2) := by decide +kernel
theorem d_Buf_answer_56 : decode b_Buf_answer 56 = .ok (.ireturn, 1) := by decide +kernel
theorem d_Buf_answer_57 : decode b_Buf_answer 57 = .ok (.iload_n 1, 1) := by decide +kernel
theorem d_Buf_answer_58 : decode b_Buf_answer 58 = .ok (.aload_n 0, 1) := by decide +kernel
theorem d_Buf_answer_59 : decode b_Buf_answer 59 = .ok (.getfield 26, 3) := by decide +kernel
theorem d_Buf_answer_62 : decode b_Buf_answer 62 = .ok (.aload_n 0, 1) := by decide +kernel
theorem d_Buf_answer_63 : decode b_Buf_answer 63 = .ok (.getfield 23, 3) := by decide +kernel
theorem d_Buf_answer_66 : decode b_Buf_answer 66 = .ok (.isub, 1) := by decide +kernel
theorem d_Buf_answer_67 : decode b_Buf_answer 67 = .ok (.invokestatic 41, 3) := by decide +kernel
theorem d_Buf_answer_70 : decode b_Buf_answer 70 = .ok (.istore 4, 2) := by decide +kernel
theorem d_Buf_answer_72 : decode b_Buf_answer 72 = .ok (.aload_n 0, 1) := by decide +kernel
theorem d_Buf_answer_73 : decode b_Buf_answer 73 = .ok (.getfield 19, 3) := by decide +kernel
theorem d_Buf_answer_76 : decode b_Buf_answer 76 = .ok (.aload_n 0, 1) := by decide +kernel
theorem d_Buf_answer_77 : decode b_Buf_answer 77 = .ok (.getfield 23, 3) := by decide +kernel
theorem d_Buf_answer_80 : decode b_Buf_answer 80 = .ok (.aload_n 2, 1) := by decide +kernel
theorem d_Buf_answer_81 : decode b_Buf_answer 81 = .ok (.iload_n 3, 1) := by decide +kernel
theorem d_Buf_answer_82 : decode b_Buf_answer 82 = .ok (.iload 4, 2) := by decide +kernel
theorem d_Buf_answer_84 : decode b_Buf_answer 84 = .ok (.invokestatic 47, 3) := by decide +kernel
theorem d_Buf_answer_87 : decode b_Buf_answer 87 = .ok (.aload_n 0, 1) := by decide +kernel
theorem d_Buf_answer_88 : decode b_Buf_answer 88 = .ok (.dup, 1) := by decide +kernel
theorem d_Buf_answer_89 : decode b_Buf_answer 89 = .ok (.getfield 23, 3) := by decide +kernel
theorem d_Buf_answer_92 : decode b_Buf_answer 92 = .ok (.iload 4, 2) := by decide +kernel
theorem d_Buf_answer_94 : decode b_Buf_answer 94 = .ok (.iadd, 1) := by decide +kernel
theorem d_Buf_answer_95 : decode b_Buf_answer 95 = .ok (.putfield 23, 3) := by decide +kernel
theorem d_Buf_answer_98 : decode b_Buf_answer 98 = .ok (.aload_n 0, 1) := by decide +kernel
theorem d_Buf_answer_99 : decode b_Buf_answer 99 = .ok (.invokevirtual 53, 3) := by decide +kernel
theorem d_Buf_answer_102 : decode b_Buf_answer 102 = .ok (.iload 4, 2) := by decide +kernel
theorem d_Buf_answer_104 : decode b_Buf_answer 104 = .ok (.ireturn, 1) := by decide +kernel
theorem d_Buf_ready_0 : decode b_Buf_ready 0 = .ok (.aload_n 0, 1) := by decide +kernel
theorem d_Buf_ready_1 : decode b_Buf_ready 1 = .ok (.getfield 26, 3) := by decide +kernel
theorem d_Buf_ready_4 : decode b_Buf_ready 4 = .ok (.aload_n 0, 1) := by decide +kernel
theorem d_Buf_ready_5 : decode b_Buf_ready 5 = .ok (.getfield 23, 3) := by decide +kernel
theorem d_Buf_ready_8 : decode b_Buf_ready 8 = .ok (.isub, 1) := by decide +kernel
theorem d_Buf_ready_9 : decode b_Buf_ready 9 = .ok (.aload_n 0, 1) := by decide +kernel
theorem d_Buf_ready_10 : decode b_Buf_ready 10 = .ok (.getfield 9, 3) := by decide +kernel
theorem d_Buf_ready_13 : decode b_Buf_ready 13 = .ok (.invokevirtual 62, 3) := by decide +kernel
theorem d_Buf_ready_16 : decode b_Buf_ready 16 = .ok (.iadd, 1) := by decide +kernel
theorem d_Buf_ready_17 : decode b_Buf_ready 17 = .ok (.ireturn, 1) := by decide +kernel
theorem d_Buf_state_0 : decode b_Buf_state 0 = .ok (.aload_n 0, 1) := by decide +kernel
theorem d_Buf_state_1 : decode b_Buf_state 1 = .ok (.getfield 26, 3) := by decide +kernel
theorem d_Buf_state_4 : decode b_Buf_state 4 = .ok (.aload_n 0, 1) := by decide +kernel
theorem d_Buf_state_5 : decode b_Buf_state 5 = .ok (.getfield 23, 3) := by decide +kernel
theorem d_Buf_state_8 : decode b_Buf_state 8 = .ok (.isub, 1) := by decide +kernel
theorem d_Buf_state_9 : decode b_Buf_state 9 = .ok (.ireturn, 1) := by decide +kernel
theorem d_Buf_canBeMarked_0 : decode b_Buf_canBeMarked 0 = .ok (.iconst 1, 1) := by decide +kernel
theorem d_Buf_canBeMarked_1 : decode b_Buf_canBeMarked 1 = .ok (.ireturn, 1) := by decide +kernel
theorem d_Buf_hasMark_0 : decode b_Buf_hasMark 0 = .ok (.aload_n 0, 1) := by decide +kernel
theorem d_Buf_hasMark_1 : decode b_Buf_hasMark 1 = .ok (.getfield 29, 3) := by decide +kernel
theorem d_Buf_hasMark_4 : decode b_Buf_hasMark 4 = .ok (.ireturn, 1) := by decide +kernel
theorem d_Buf_takeMark_0 : decode b_Buf_takeMark 0 = .ok (.aload_n 0, 1) := by decide +kernel
theorem d_Buf_takeMark_1 : decode b_Buf_takeMark 1 = .ok (.iconst 1, 1) := by decide +kernel
theorem d_Buf_takeMark_2 : decode b_Buf_takeMark 2 = .ok (.putfield 29, 3) := by decide +kernel
theorem d_Buf_takeMark_5 : decode b_Buf_takeMark 5 = .ok (.aload_n 0, 1) := by decide +kernel
theorem d_Buf_takeMark_6 : decode b_Buf_takeMark 6 = .ok (.iload_n 1, 1) := by decide +kernel
theorem d_Buf_takeMark_7 : decode b_Buf_takeMark 7 = .ok (.putfield 59, 3) := by decide +kernel
theorem d_Buf_takeMark_10 : decode b_Buf_takeMark 10 = .ok (.aload_n 0, 1) := by decide +kernel
theorem d_Buf_takeMark_11 : decode b_Buf_takeMark 11 = .ok (.aload_n 0, 1) := by decide +kernel
theorem d_Buf_takeMark_12 : decode b_Buf_takeMark 12 = .ok (.getfield 23, 3) := by decide +kernel
theorem d_Buf_takeMark_15 : decode b_Buf_takeMark 15 = .ok (.putfield 56, 3) := by decide +kernel
theorem d_Buf_takeMark_18 : decode b_Buf_takeMark 18 = .ok (.return_, 1) := by decide +kernel
theorem d_Buf_goBack_0 : decode b_Buf_goBack 0 = .ok (.aload_n 0, 1) := by decide +kernel
theorem d_Buf_goBack_1 : decode b_Buf_goBack 1 = .ok (.aload_n 0, 1) := by decide +kernel
theorem d_Buf_goBack_2 : decode b_Buf_goBack 2 = .ok (.getfield 56, 3) := by decide +kernel
theorem d_Buf_goBack_5 : decode b_Buf_goBack 5 = .ok (.putfield 23, 3) := by decide +kernel
theorem d_Buf_goBack_8 : decode b_Buf_goBack 8 = .ok (.return_, 1) := by decide +kernel
theorem d_Pas_init_0 : decode b_Pas_init 0 = .ok (.aload_n 0, 1) := by decide +kernel
theorem d_Pas_init_1 : decode b_Pas_init 1 = .ok (.invokespecial 1, 3) := by decide +kernel
theorem d_Pas_init_4 : decode b_Pas_init 4 = .ok (.aload_n 0, 1) := by decide +kernel
theorem d_Pas_init_5 : decode b_Pas_init 5 = .ok (.aload_n 1, 1) := by decide +kernel
theorem d_Pas_init_6 : decode b_Pas_init 6 = .ok (.putfield 7, 3) := by decide +kernel
theorem d_Pas_init_9 : decode b_Pas_init 9 = .ok (.return_, 1) := by decide +kernel
theorem d_Cod_init_0 : decode b_Cod_init 0 = .ok (.aload_n 0, 1) := by decide +kernel
theorem d_Cod_init_1 : decode b_Cod_init 1 = .ok (.aload_n 1, 1) := by decide +kernel
theorem d_Cod_init_2 : decode b_Cod_init 2 = .ok (.invokespecial 3, 3) := by decide +kernel
theorem d_Cod_init_5 : decode b_Cod_init 5 = .ok (.aload_n 0, 1) := by decide +kernel
theorem d_Cod_init_6 : decode b_Cod_init 6 = .ok (.iload_n 2, 1) := by decide +kernel
theorem d_Cod_init_7 : decode b_Cod_init 7 = .ok (.putfield 9, 3) := by decide +kernel
theorem d_Cod_init_10 : decode b_Cod_init 10 = .ok (.return_, 1) := by decide +kernel
theorem d_Cod_answer_0 : decode b_Cod_answer 0 = .ok (.aload_n 0, 1) := by decide +kernel
theorem d_Cod_answer_1 : decode b_Cod_answer 1 = .ok (.getfield 15, 3) := by decide +kernel
theorem d_Cod_answer_4 : decode b_Cod_answer 4 = .ok (.iload_n 1, 1) := by decide +kernel
theorem d_Cod_answer_5 : decode b_Cod_answer 5 = .ok (.aload_n 2, 1) := by decide +kernel
theorem d_Cod_answer_6 : decode b_Cod_answer 6 = .ok (.iload_n 3, 1) := by decide +kernel
theorem d_Cod_answer_7 : decode b_Cod_answer 7 = .ok (.invokevirtual 19, 3) := by decide +kernel
theorem d_Cod_answer_10 : decode b_Cod_answer 10 = .ok (.istore 4, 2) := by decide +kernel
theorem d_Cod_answer_12 : decode b_Cod_answer 12 = .ok (.iconst 0, 1) := by decide +kernel
theorem d_Cod_answer_13 : decode b_Cod_answer 13 = .ok (.istore 5, 2) := by decide +kernel
theorem d_Cod_answer_15 : decode b_Cod_answer 15 = .ok (.iload 5, 2) := by decide +kernel
theorem d_Cod_answer_17 : decode b_Cod_answer 17 = .ok (.iload 4, 2) := by decide +kernel
theorem d_Cod_answer_19 : decode b_Cod_answer 19 = .ok (.if_icmp .ge 41, 3) := by decide +kernel
theorem d_Cod_answer_22 : decode b_Cod_answer 22 = .ok (.aload_n 2, 1) := by decide +kernel
theorem d_Cod_answer_23 : decode b_Cod_answer 23 = .ok (.iload_n 3, 1) := by decide +kernel
theorem d_Cod_answer_24 : decode b_Cod_answer 24 = .ok (.iload 5, 2) := by decide +kernel
theorem d_Cod_answer_26 : decode b_Cod_answer 26 = .ok (.iadd, 1) := by decide +kernel
theorem d_Cod_answer_27 : decode b_Cod_answer 27 = .ok (.dup2, 1) := by decide +kernel
theorem d_Cod_answer_28 : decode b_Cod_answer 28 = .ok (.iaload, 1) := by decide +kernel
theorem d_Cod_answer_29 : decode b_Cod_answer 29 = .ok (.aload_n 0, 1) := by decide +kernel
theorem d_Cod_answer_30 : decode b_Cod_answer 30 = .ok (.getfield 9, 3) := by decide +kernel
theorem d_Cod_answer_33 : decode b_Cod_answer 33 = .ok (.aload_n 0, 1) := by decide +kernel
theorem d_Cod_answer_34 : decode b_Cod_answer 34 = .ok (.getfield 25, 3) := by decide +kernel
theorem d_Cod_answer_37 : decode b_Cod_answer 37 = .ok (.iadd, 1) := by decide +kernel
theorem d_Cod_answer_38 : decode b_Cod_answer 38 = .ok (.sipush 255, 3) := by decide +kernel
theorem d_Cod_answer_41 : decode b_Cod_answer 41 = .ok (.iand, 1) := by decide +kernel
theorem d_Cod_answer_42 : decode b_Cod_answer 42 = .ok (.ixor, 1) := by decide +kernel
theorem d_Cod_answer_43 : decode b_Cod_answer 43 = .ok (.iastore, 1) := by decide +kernel
theorem d_Cod_answer_44 : decode b_Cod_answer 44 = .ok (.aload_n 0, 1) := by decide +kernel
theorem d_Cod_answer_45 : decode b_Cod_answer 45 = .ok (.dup, 1) := by decide +kernel
theorem d_Cod_answer_46 : decode b_Cod_answer 46 = .ok (.getfield 25, 3) := by decide +kernel
theorem d_Cod_answer_49 : decode b_Cod_answer 49 = .ok (.iconst 1, 1) := by decide +kernel
theorem d_Cod_answer_50 : decode b_Cod_answer 50 = .ok (.iadd, 1) := by decide +kernel
theorem d_Cod_answer_51 : decode b_Cod_answer 51 = .ok (.putfield 25, 3) := by decide +kernel
theorem d_Cod_answer_54 : decode b_Cod_answer 54 = .ok (.iinc 5 1, 3) := by decide +kernel
theorem d_Cod_answer_57 : decode b_Cod_answer 57 = .ok (.goto (-42), 3) := by decide +kernel
theorem d_Cod_answer_60 : decode b_Cod_answer 60 = .ok (.iload 4, 2) := by decide +kernel
theorem d_Cod_answer_62 : decode b_Cod_answer 62 = .ok (.ireturn, 1) := by decide +kernel
theorem d_Cod_state_0 : decode b_Cod_state 0 = .ok (.aload_n 0, 1) := by decide +kernel
theorem d_Cod_state_1 : decode b_Cod_state 1 = .ok (.getfield 25, 3) := by decide +kernel
theorem d_Cod_state_4 : decode b_Cod_state 4 = .ok (.ireturn, 1) := by decide +kernel
theorem d_Cod_remember_0 : decode b_Cod_remember 0 = .ok (.aload_n 0, 1) := by decide +kernel
theorem d_Cod_remember_1 : decode b_Cod_remember 1 = .ok (.aload_n 0, 1) := by decide +kernel
theorem d_Cod_remember_2 : decode b_Cod_remember 2 = .ok (.getfield 25, 3) := by decide +kernel
theorem d_Cod_remember_5 : decode b_Cod_remember 5 = .ok (.putfield 28, 3) := by decide +kernel
theorem d_Cod_remember_8 : decode b_Cod_remember 8 = .ok (.return_, 1) := by decide +kernel
theorem d_Cod_recall_0 : decode b_Cod_recall 0 = .ok (.aload_n 0, 1) := by decide +kernel
theorem d_Cod_recall_1 : decode b_Cod_recall 1 = .ok (.aload_n 0, 1) := by decide +kernel
theorem d_Cod_recall_2 : decode b_Cod_recall 2 = .ok (.getfield 28, 3) := by decide +kernel
theorem d_Cod_recall_5 : decode b_Cod_recall 5 = .ok (.putfield 25, 3) := by decide +kernel
theorem d_Cod_recall_8 : decode b_Cod_recall 8 = .ok (.return_, 1) := by decide +kernel
theorem d_Lim_init_0 : decode b_Lim_init 0 = .ok (.aload_n 0, 1) := by decide +kernel
theorem d_Lim_init_1 : decode b_Lim_init 1 = .ok (.aload_n 1, 1) := by decide +kernel
theorem d_Lim_init_2 : decode b_Lim_init 2 = .ok (.invokespecial 3, 3) := by decide +kernel
theorem d_Lim_init_5 : decode b_Lim_init 5 = .ok (.aload_n 0, 1) := by decide +kernel
theorem d_Lim_init_6 : decode b_Lim_init 6 = .ok (.iload_n 2, 1) := by decide +kernel
theorem d_Lim_init_7 : decode b_Lim_init 7 = .ok (.putfield 9, 3) := by decide +kernel
theorem d_Lim_init_10 : decode b_Lim_init 10 = .ok (.aload_n 0, 1) := by decide +kernel
theorem d_Lim_init_11 : decode b_Lim_init 11 = .ok (.iload_n 2, 1) := by decide +kernel
theorem d_Lim_init_12 : decode b_Lim_init 12 = .ok (.putfield 15, 3) := by decide +kernel
theorem d_Lim_init_15 : decode b_Lim_init 15 = .ok (.return_, 1) := by decide +kernel
theorem d_Lim_answer_0 : decode b_Lim_answer 0 = .ok (.aload_n 0, 1) := by decide +kernel
theorem d_Lim_answer_1 : decode b_Lim_answer 1 = .ok (.getfield 9, 3) := by decide +kernel
theorem d_Lim_answer_4 : decode b_Lim_answer 4 = .ok (.ifCond .ne 5, 3) := by decide +kernel
theorem d_Lim_answer_7 : decode b_Lim_answer 7 = .ok (.iconst 0, 1) := by decide +kernel
theorem d_Lim_answer_8 : decode b_Lim_answer 8 = .ok (.ireturn, 1) := by decide +kernel
theorem d_Lim_answer_9 : decode b_Lim_answer 9 = .ok (.aload_n 0, 1) := by decide +kernel
theorem d_Lim_answer_10 : decode b_Lim_answer 10 = .ok (.getfield 18, 3) := by decide +kernel
theorem d_Lim_answer_13 : decode b_Lim_answer 13 = .ok (.iload_n 1, 1) := by decide +kernel
theorem d_Lim_answer_14 : decode b_Lim_answer 14 = .ok (.aload_n 0, 1) := by decide +kernel
theorem d_Lim_answer_15 : decode b_Lim_answer 15 = .ok (.getfield 9, 3) := by decide +kernel
theorem d_Lim_answer_18 : decode b_Lim_answer 18 = .ok (.invokestatic 22, 3) := by decide +kernel
theorem d_Lim_answer_21 : decode b_Lim_answer 21 = .ok (.aload_n 2, 1) := by decide +kernel
theorem d_Lim_answer_22 : decode b_Lim_answer 22 = .ok (.iload_n 3, 1) := by decide +kernel
theorem d_Lim_answer_23 : decode b_Lim_answer 23 = .ok (.invokevirtual 28, 3) := by decide +kernel
theorem d_Lim_answer_26 : decode b_Lim_answer 26 = .ok (.istore 4, 2) := by decide +kernel
theorem d_Lim_answer_28 : decode b_Lim_answer 28 = .ok (.iload 4, 2) := by decide +kernel
theorem d_Lim_answer_30 : decode b_Lim_answer 30 = .ok (.iconst (-1), 1) := by decide +kernel
theorem d_Lim_answer_31 : decode b_Lim_answer 31 = .ok (.if_icmp .eq 14, 3) := by decide +kernel
theorem d_Lim_answer_34 : decode b_Lim_answer 34 = .ok (.aload_n 0, 1) := by decide +kernel
theorem d_Lim_answer_35 : decode b_Lim_answer 35 = .ok (.dup, 1) := by decide +kernel
theorem d_Lim_answer_36 : decode b_Lim_answer 36 = .ok (.getfield 9, 3) := by decide +kernel
theorem d_Lim_answer_39 : decode b_Lim_answer 39 = .ok (.iload 4, 2) := by decide +kernel
theorem d_Lim_answer_41 : decode b_Lim_answer 41 = .ok (.isub, 1) := by decide +kernel
theorem d_Lim_answer_42 : decode b_Lim_answer 42 = .ok (.putfield 9, 3) := by decide +kernel
theorem d_Lim_answer_45 : decode b_Lim_answer 45 = .ok (.iload 4, 2) := by decide +kernel
theorem d_Lim_answer_47 : decode b_Lim_answer 47 = .ok (.ireturn, 1) := by decide +kernel
theorem d_Lim_ready_0 : decode b_Lim_ready 0 = .ok (.aload_n 0, 1) := by decide +kernel
theorem d_Lim_ready_1 : decode b_Lim_ready 1 = .ok (.getfield 9, 3) := by decide +kernel
theorem d_Lim_ready_4 : decode b_Lim_ready 4 = .ok (.aload_n 0, 1) := by decide +kernel
theorem d_Lim_ready_5 : decode b_Lim_ready 5 = .ok (.getfield 18, 3) := by decide +kernel
theorem d_Lim_ready_8 : decode b_Lim_ready 8 = .ok (.invokevirtual 34, 3) := by decide +kernel
theorem d_Lim_ready_11 : decode b_Lim_ready 11 = .ok (.invokestatic 22, 3) := by decide +kernel
theorem d_Lim_ready_14 : decode b_Lim_ready 14 = .ok (.ireturn, 1) := by decide +kernel
theorem d_Lim_state_0 : decode b_Lim_state 0 = .ok (.aload_n 0, 1) := by decide +kernel
theorem d_Lim_state_1 : decode b_Lim_state 1 = .ok (.getfield 9, 3) := by decide +kernel
theorem d_Lim_state_4 : decode b_Lim_state 4 = .ok (.ireturn, 1) := by decide +kernel
theorem d_Lim_remember_0 : decode b_Lim_remember 0 = .ok (.aload_n 0, 1) := by decide +kernel
theorem d_Lim_remember_1 : decode b_Lim_remember 1 = .ok (.aload_n 0, 1) := by decide +kernel
theorem d_Lim_remember_2 : decode b_Lim_remember 2 = .ok (.getfield 9, 3) := by decide +kernel
theorem d_Lim_remember_5 : decode b_Lim_remember 5 = .ok (.putfield 15, 3) := by decide +kernel
theorem d_Lim_remember_8 : decode b_Lim_remember 8 = .ok (.return_, 1) := by decide +kernel
theorem d_Lim_recall_0 : decode b_Lim_recall 0 = .ok (.aload_n 0, 1) := by decide +kernel
theorem d_Lim_recall_1 : decode b_Lim_recall 1 = .ok (.aload_n 0, 1) := by decide +kernel
theorem d_Lim_recall_2 : decode b_Lim_recall 2 = .ok (.getfield 15, 3) := by decide +kernel
theorem d_Lim_recall_5 : decode b_Lim_recall 5 = .ok (.putfield 9, 3) := by decide +kernel
theorem d_Lim_recall_8 : decode b_Lim_recall 8 = .ok (.return_, 1) := by decide +kernel
theorem d_Lin_init_0 : decode b_Lin_init 0 = .ok (.aload_n 0, 1) := by decide +kernel
theorem d_Lin_init_1 : decode b_Lin_init 1 = .ok (.aload_n 1, 1) := by decide +kernel
theorem d_Lin_init_2 : decode b_Lin_init 2 = .ok (.invokespecial 3, 3) := by decide +kernel
theorem d_Lin_init_5 : decode b_Lin_init 5 = .ok (.return_, 1) := by decide +kernel
theorem d_Lin_countLineEnd_0 : decode b_Lin_countLineEnd 0 = .ok (.iload_n 1, 1) := by decide +kernel
theorem d_Lin_countLineEnd_1 : decode b_Lin_countLineEnd 1 = .ok (.bipush 13, 2) := by decide +kernel
theorem d_Lin_countLineEnd_3 : decode b_Lin_countLineEnd 3 = .ok (.if_icmp .eq 16, 3) := by decide +kernel
theorem d_Lin_countLineEnd_6 : decode b_Lin_countLineEnd 6 = .ok (.iload_n 1, 1) := by decide +kernel
theorem d_Lin_countLineEnd_7 : decode b_Lin_countLineEnd 7 = .ok (.bipush 10, 2) := by decide +kernel
theorem d_Lin_countLineEnd_9 : decode b_Lin_countLineEnd 9 = .ok (.if_icmp .ne 20, 3) := by decide +kernel
theorem d_Lin_countLineEnd_12 : decode b_Lin_countLineEnd 12 = .ok (.aload_n 0, 1) := by decide +kernel
theorem d_Lin_countLineEnd_13 : decode b_Lin_countLineEnd 13 = .ok (.getfield 25, 3) := by decide +kernel
theorem d_Lin_countLineEnd_16 : decode b_Lin_countLineEnd 16 = .ok (.ifCond .ne 13, 3) := by decide +kernel
theorem d_Lin_countLineEnd_19 : decode b_Lin_countLineEnd 19 = .ok (.aload_n 0, 1) := by decide +kernel
theorem d_Lin_countLineEnd_20 : decode b_Lin_countLineEnd 20 = .ok (.dup, 1) := by decide +kernel
theorem d_Lin_countLineEnd_21 : decode b_Lin_countLineEnd 21 = .ok (.getfield 29, 3) := by decide +kernel
theorem d_Lin_countLineEnd_24 : decode b_Lin_countLineEnd 24 = .ok (.iconst 1, 1) := by decide +kernel
theorem d_Lin_countLineEnd_25 : decode b_Lin_countLineEnd 25 = .ok (.iadd, 1) := by decide +kernel
theorem d_Lin_countLineEnd_26 : decode b_Lin_countLineEnd 26 = .ok (.putfield 29, 3) := by decide +kernel
theorem d_Lin_countLineEnd_29 : decode b_Lin_countLineEnd 29 = .ok (.aload_n 0, 1) := by decide +kernel
theorem d_Lin_countLineEnd_30 : decode b_Lin_countLineEnd 30 = .ok (.iload_n 1, 1) := by decide +kernel
theorem d_Lin_countLineEnd_31 : decode b_Lin_countLineEnd 31 = .ok (.bipush 13, 2) := by decide +kernel
theorem d_Lin_countLineEnd_33 : decode b_Lin_countLineEnd 33 = .ok (.if_icmp .ne 7, 3) := by decide +kernel
theorem d_Lin_countLineEnd_36 : decode b_Lin_countLineEnd 36 = .ok (.iconst 1, 1) := by decide +kernel
theorem d_Lin_countLineEnd_37 : decode b_Lin_countLineEnd 37 = .ok (.goto 4, 3) := by decide +kernel
theorem d_Lin_countLineEnd_40 : decode b_Lin_countLineEnd 40 = .ok (.iconst 0, 1) := by decide +kernel
theorem d_Lin_countLineEnd_41 : decode b_Lin_countLineEnd 41 = .ok (.putfield 25, 3) := by decide +kernel
theorem d_Lin_countLineEnd_44 : decode b_Lin_countLineEnd 44 = .ok (.return_, 1) := by decide +kernel
theorem d_Lin_answer_0 : decode b_Lin_answer 0 = .ok (.aload_n 0, 1) := by decide +kernel
theorem d_Lin_answer_1 : decode b_Lin_answer 1 = .ok (.getfield 9, 3) := by decide +kernel
theorem d_Lin_answer_4 : decode b_Lin_answer 4 = .ok (.iload_n 1, 1) := by decide +kernel
theorem d_Lin_answer_5 : decode b_Lin_answer 5 = .ok (.aload_n 2, 1) := by decide +kernel
theorem d_Lin_answer_6 : decode b_Lin_answer 6 = .ok (.iload_n 3, 1) := by decide +kernel
theorem d_Lin_answer_7 : decode b_Lin_answer 7 = .ok (.invokevirtual 15, 3) := by decide +kernel
theorem d_Lin_answer_10 : decode b_Lin_answer 10 = .ok (.istore 4, 2) := by decide +kernel
theorem d_Lin_answer_12 : decode b_Lin_answer 12 = .ok (.iconst 0, 1) := by decide +kernel
theorem d_Lin_answer_13 : decode b_Lin_answer 13 = .ok (.istore 5, 2) := by decide +kernel
theorem d_Lin_answer_15 : decode b_Lin_answer 15 = .ok (.iload 5, 2) := by decide +kernel
theorem d_Lin_answer_17 : decode b_Lin_answer 17 = .ok (.iload 4, 2) := by decide +kernel
theorem d_Lin_answer_19 : decode b_Lin_answer 19 = .ok (.if_icmp .ge 19, 3) := by decide +kernel
theorem d_Lin_answer_22 : decode b_Lin_answer 22 = .ok (.aload_n 0, 1) := by decide +kernel
theorem d_Lin_answer_23 : decode b_Lin_answer 23 = .ok (.aload_n 2, 1) := by decide +kernel
theorem d_Lin_answer_24 : decode b_Lin_answer 24 = .ok (.iload_n 3, 1) := by decide +kernel
theorem d_Lin_answer_25 : decode b_Lin_answer 25 = .ok (.iload 5, 2) := by decide +kernel
theorem d_Lin_answer_27 : decode b_Lin_answer 27 = .ok (.iadd, 1) := by decide +kernel
theorem d_Lin_answer_28 : decode b_Lin_answer 28 = .ok (.iaload, 1) := by decide +kernel
theorem d_Lin_answer_29 : decode b_Lin_answer 29 = .ok (.invokevirtual 21, 3) := by decide +kernel
theorem d_Lin_answer_32 : decode b_Lin_answer 32 = .ok (.iinc 5 1, 3) := by decide +kernel
theorem d_Lin_answer_35 : decode b_Lin_answer 35 = .ok (.goto (-20), 3) := by decide +kernel
theorem d_Lin_answer_38 : decode b_Lin_answer 38 = .ok (.iload 4, 2) := by decide +kernel
theorem d_Lin_answer_40 : decode b_Lin_answer 40 = .ok (.ireturn, 1) := by decide +kernel
theorem d_Lin_state_0 : decode b_Lin_state 0 = .ok (.aload_n 0, 1) := by decide +kernel
theorem d_Lin_state_1 : decode b_Lin_state 1 = .ok (.getfield 29, 3) := by decide +kernel
theorem d_Lin_state_4 : decode b_Lin_state 4 = .ok (.ireturn, 1) := by decide +kernel
theorem d_Lin_remember_0 : decode b_Lin_remember 0 = .ok (.aload_n 0, 1) := by decide +kernel
theorem d_Lin_remember_1 : decode b_Lin_remember 1 = .ok (.aload_n 0, 1) := by decide +kernel
theorem d_Lin_remember_2 : decode b_Lin_remember 2 = .ok (.getfield 29, 3) := by decide +kernel
theorem d_Lin_remember_5 : decode b_Lin_remember 5 = .ok (.putfield 33, 3) := by decide +kernel
theorem d_Lin_remember_8 : decode b_Lin_remember 8 = .ok (.aload_n 0, 1) := by decide +kernel
theorem d_Lin_remember_9 : decode b_Lin_remember 9 = .ok (.aload_n 0, 1) := by decide +kernel
theorem d_Lin_remember_10 : decode b_Lin_remember 10 = .ok (.getfield 25, 3) := by decide +kernel
theorem d_Lin_remember_13 : decode b_Lin_remember 13 = .ok (.putfield 36, 3) := by decide +kernel
theorem d_Lin_remember_16 : decode b_Lin_remember 16 = .ok (.return_, 1) := by decide +kernel
theorem d_Lin_recall_0 : decode b_Lin_recall 0 = .ok (.aload_n 0, 1) := by decide +kernel
theorem d_Lin_recall_1 : decode b_Lin_recall 1 = .ok (.aload_n 0, 1) := by decide +kernel
theorem d_Lin_recall_2 : decode b_Lin_recall 2 = .ok (.getfield 33, 3) := by decide +kernel
theorem d_Lin_recall_5 : decode b_Lin_recall 5 = .ok (.putfield 29, 3) := by decide +kernel
theorem d_Lin_recall_8 : decode b_Lin_recall 8 = .ok (.aload_n 0, 1) := by decide +kernel
theorem d_Lin_recall_9 : decode b_Lin_recall 9 = .ok (.aload_n 0, 1) := by decide +kernel
theorem d_Lin_recall_10 : decode b_Lin_recall 10 = .ok (.getfield 36, 3) := by decide +kernel
theorem d_Lin_recall_13 : decode b_Lin_recall 13 = .ok (.putfield 25, 3) := by decide +kernel
theorem d_Lin_recall_16 : decode b_Lin_recall 16 = .ok (.return_, 1) := by decide +kernel
theorem d_Pas_ready_0 : decode b_Pas_ready 0 = .ok (.aload_n 0, 1) := by decide +kernel
theorem d_Pas_ready_1 : decode b_Pas_ready 1 = .ok (.getfield 7, 3) := by decide +kernel
theorem d_Pas_ready_4 : decode b_Pas_ready 4 = .ok (.invokevirtual 13, 3) := by decide +kernel
theorem d_Pas_ready_7 : decode b_Pas_ready 7 = .ok (.ireturn, 1) := by decide +kernel
theorem d_Pas_canBeMarked_0 : decode b_Pas_canBeMarked 0 = .ok (.aload_n 0, 1) := by decide +kernel
theorem d_Pas_canBeMarked_1 : decode b_Pas_canBeMarked 1 = .ok (.getfield 7, 3) := by decide +kernel
theorem d_Pas_canBeMarked_4 : decode b_Pas_canBeMarked 4 = .ok (.invokevirtual 17, 3) := by decide +kernel
theorem d_Pas_canBeMarked_7 : decode b_Pas_canBeMarked 7 = .ok (.ireturn, 1) := by decide +kernel
theorem d_Pas_hasMark_0 : decode b_Pas_hasMark 0 = .ok (.aload_n 0, 1) := by decide +kernel
theorem d_Pas_hasMark_1 : decode b_Pas_hasMark 1 = .ok (.getfield 7, 3) := by decide +kernel
theorem d_Pas_hasMark_4 : decode b_Pas_hasMark 4 = .ok (.invokevirtual 21, 3) := by decide +kernel
theorem d_Pas_hasMark_7 : decode b_Pas_hasMark 7 = .ok (.ireturn, 1) := by decide +kernel
theorem d_Pas_takeMark_0 : decode b_Pas_takeMark 0 = .ok (.aload_n 0, 1) := by decide +kernel
theorem d_Pas_takeMark_1 : decode b_Pas_takeMark 1 = .ok (.getfield 7, 3) := by decide +kernel
theorem d_Pas_takeMark_4 : decode b_Pas_takeMark 4 = .ok (.iload_n 1, 1) := by decide +kernel
theorem d_Pas_takeMark_5 : decode b_Pas_takeMark 5 = .ok (.invokevirtual 24, 3) := by decide +kernel
theorem d_Pas_takeMark_8 : decode b_Pas_takeMark 8 = .ok (.aload_n 0, 1) := by decide +kernel
theorem d_Pas_takeMark_9 : decode b_Pas_takeMark 9 = .ok (.invokevirtual 28, 3) := by decide +kernel
theorem d_Pas_takeMark_12 : decode b_Pas_takeMark 12 = .ok (.return_, 1) := by decide +kernel
theorem d_Pas_goBack_0 : decode b_Pas_goBack 0 = .ok (.aload_n 0, 1) := by decide +kernel
theorem d_Pas_goBack_1 : decode b_Pas_goBack 1 = .ok (.getfield 7, 3) := by decide +kernel
theorem d_Pas_goBack_4 : decode b_Pas_goBack 4 = .ok (.invokevirtual 31, 3) := by decide +kernel
theorem d_Pas_goBack_7 : decode b_Pas_goBack 7 = .ok (.aload_n 0, 1) := by decide +kernel
theorem d_Pas_goBack_8 : decode b_Pas_goBack 8 = .ok (.invokevirtual 34, 3) := by decide +kernel
theorem d_Pas_goBack_11 : decode b_Pas_goBack 11 = .ok (.return_, 1) := by decide +kernel
theorem d_Psh_init_0 : decode b_Psh_init 0 = .ok (.aload_n 0, 1) := by decide +kernel
theorem d_Psh_init_1 : decode b_Psh_init 1 = .ok (.invokespecial 1, 3) := by decide +kernel
theorem d_Psh_init_4 : decode b_Psh_init 4 = .ok (.aload_n 0, 1) := by decide +kernel
theorem d_Psh_init_5 : decode b_Psh_init 5 = .ok (.aload_n 1, 1) := by decide +kernel
theorem d_Psh_init_6 : decode b_Psh_init 6 = .ok (.putfield 7, 3) := by decide +kernel
theorem d_Psh_init_9 : decode b_Psh_init 9 = .ok (.aload_n 0, 1) := by decide +kernel
theorem d_Psh_init_10 : decode b_Psh_init 10 = .ok (.iload_n 2, 1) := by decide +kernel
theorem d_Psh_init_11 : decode b_Psh_init 11 = .ok (.newarray .int, 2) := by decide +kernel
theorem d_Psh_init_13 : decode b_Psh_init 13 = .ok (.putfield 13, 3) := by decide +kernel
theorem d_Psh_init_16 : decode b_Psh_init 16 = .ok (.return_, 1) := by decide +kernel
theorem d_Psh_putBack_0 : decode b_Psh_putBack 0 = .ok (.aload_n 0, 1) := by decide +kernel
theorem d_Psh_putBack_1 : decode b_Psh_putBack 1 = .ok (.getfield 17, 3) := by decide +kernel
theorem d_Psh_putBack_4 : decode b_Psh_putBack 4 = .ok (.aload_n 0, 1) := by decide +kernel
theorem d_Psh_putBack_5 : decode b_Psh_putBack 5 = .ok (.getfield 13, 3) := by decide +kernel
theorem d_Psh_putBack_8 : decode b_Psh_putBack 8 = .ok (.arraylength, 1) := by decide +kernel
theorem d_Psh_putBack_9 : decode b_Psh_putBack 9 = .ok (.if_icmp .lt 5, 3) := by decide +kernel
theorem d_Psh_putBack_12 : decode b_Psh_putBack 12 = .ok (.iconst 0, 1) := by decide +kernel
theorem d_Psh_putBack_13 : decode b_Psh_putBack 13 = .ok (.ireturn, 1) := by decide +kernel
theorem d_Psh_putBack_14 : decode b_Psh_putBack 14 = .ok (.aload_n 0, 1) := by decide +kernel
theorem d_Psh_putBack_15 : decode b_Psh_putBack 15 = .ok (.getfield 13, 3) := by decide +kernel
theorem d_Psh_putBack_18 : decode b_Psh_putBack 18 = .ok (.aload_n 0, 1) := by decide +kernel
theorem d_Psh_putBack_19 : decode b_Psh_putBack 19 = .ok (.getfield 17, 3) := by decide +kernel
theorem d_Psh_putBack_22 : decode b_Psh_putBack 22 = .ok (.iload_n 1, 1) := by decide +kernel
theorem d_Psh_putBack_23 : decode b_Psh_putBack 23 = .ok (.iastore, 1) := by decide +kernel
theorem d_Psh_putBack_24 : decode b_Psh_putBack 24 = .ok (.aload_n 0, 1) := by decide +kernel
theorem d_Psh_putBack_25 : decode b_Psh_putBack 25 = .ok (.dup, 1) := by decide +kernel
theorem d_Psh_putBack_26 : decode b_Psh_putBack 26 = .ok (.getfield 17, 3) := by decide +kernel
theorem d_Psh_putBack_29 : decode b_Psh_putBack 29 = .ok (.iconst 1, 1) := by decide +kernel
theorem d_Psh_putBack_30 : decode b_Psh_putBack 30 = .ok (.iadd, 1) := by decide +kernel
theorem d_Psh_putBack_31 : decode b_Psh_putBack 31 = .ok (.putfield 17, 3) := by decide +kernel
theorem d_Psh_putBack_34 : decode b_Psh_putBack 34 = .ok (.iconst 1, 1) := by decide +kernel
theorem d_Psh_putBack_35 : decode b_Psh_putBack 35 = .ok (.ireturn, 1) := by decide +kernel
theorem d_Psh_answer_0 : decode b_Psh_answer 0 = .ok (.aload_n 0, 1) := by decide +kernel
theorem d_Psh_answer_1 : decode b_Psh_answer 1 = .ok (.getfield 17, 3) := by decide +kernel
theorem d_Psh_answer_4 : decode b_Psh_answer 4 = .ok (.ifCond .ne 14, 3) := by decide +kernel
theorem d_Psh_answer_7 : decode b_Psh_answer 7 = .ok (.aload_n 0, 1) := by decide +kernel
theorem d_Psh_answer_8 : decode b_Psh_answer 8 = .ok (.getfield 7, 3) := by decide +kernel
theorem d_Psh_answer_11 : decode b_Psh_answer 11 = .ok (.iload_n 1, 1) := by decide +kernel
theorem d_Psh_answer_12 : decode b_Psh_answer 12 = .ok (.aload_n 2, 1) := by decide +kernel
theorem d_Psh_answer_13 : decode b_Psh_answer 13 = .ok (.iload_n 3, 1) := by decide +kernel
theorem d_Psh_answer_14 : decode b_Psh_answer 14 = .ok (.invokevirtual 21, 3) := by decide +kernel
theorem d_Psh_answer_17 : decode b_Psh_answer 17 = .ok (.ireturn, 1) := by decide +kernel
theorem d_Psh_answer_18 : decode b_Psh_answer 18 = .ok (.iload_n 1, 1) := by decide +kernel
theorem d_Psh_answer_19 : decode b_Psh_answer 19 = .ok (.aload_n 0, 1) := by decide +kernel
theorem d_Psh_answer_20 : decode b_Psh_answer 20 = .ok (.getfield 17, 3) := by decide +kernel
theorem d_Psh_answer_23 : decode b_Psh_answer 23 = .ok (.invokestatic 25, 3) := by decide +kernel
theorem d_Psh_answer_26 : decode b_Psh_answer 26 = .ok (.istore 4, 2) := by decide +kernel
theorem d_Psh_answer_28 : decode b_Psh_answer 28 = .ok (.iconst 0, 1) := by decide +kernel
theorem d_Psh_answer_29 : decode b_Psh_answer 29 = .ok (.istore 5, 2) := by decide +kernel
theorem d_Psh_answer_31 : decode b_Psh_answer 31 = .ok (.iload 5, 2) := by decide +kernel
theorem d_Psh_answer_33 : decode b_Psh_answer 33 = .ok (.iload 4, 2) := by decide +kernel
theorem d_Psh_answer_35 : decode b_Psh_answer 35 = .ok (.if_icmp .ge 34, 3) := by decide +kernel
theorem d_Psh_answer_38 : decode b_Psh_answer 38 = .ok (.aload_n 0, 1) := by decide +kernel
theorem d_Psh_answer_39 : decode b_Psh_answer 39 = .ok (.dup, 1) := by decide +kernel
theorem d_Psh_answer_40 : decode b_Psh_answer 40 = .ok (.getfield 17, 3) := by decide +kernel
theorem d_Psh_answer_43 : decode b_Psh_answer 43 = .ok (.iconst 1, 1) := by decide +kernel
theorem d_Psh_answer_44 : decode b_Psh_answer 44 = .ok (.isub, 1) := by decide +kernel
theorem d_Psh_answer_45 : decode b_Psh_answer 45 = .ok (.putfield 17, 3) := by decide +kernel
theorem d_Psh_answer_48 : decode b_Psh_answer 48 = .ok (.aload_n 2, 1) := by decide +kernel
theorem d_Psh_answer_49 : decode b_Psh_answer 49 = .ok (.iload_n 3, 1) := by decide +kernel
theorem d_Psh_answer_50 : decode b_Psh_answer 50 = .ok (.iload 5, 2) := by decide +kernel
theorem d_Psh_answer_52 : decode b_Psh_answer 52 = .ok (.iadd, 1) := by decide +kernel
theorem d_Psh_answer_53 : decode b_Psh_answer 53 = .ok (.aload_n 0, 1) := by decide +kernel
theorem d_Psh_answer_54 : decode b_Psh_answer 54 = .ok (.getfield 13, 3) := by decide +kernel
theorem d_Psh_answer_57 : decode b_Psh_answer 57 = .ok (.aload_n 0, 1) := by decide +kernel
theorem d_Psh_answer_58 : decode b_Psh_answer 58 = .ok (.getfield 17, 3) := by decide +kernel
theorem d_Psh_answer_61 : decode b_Psh_answer 61 = .ok (.iaload, 1) := by decide +kernel
theorem d_Psh_answer_62 : decode b_Psh_answer 62 = .ok (.iastore, 1) := by decide +kernel
theorem d_Psh_answer_63 : decode b_Psh_answer 63 = .ok (.iinc 5 1, 3) := by decide +kernel
theorem d_Psh_answer_66 : decode b_Psh_answer 66 = .ok (.goto (-35), 3) := by decide +kernel
theorem d_Psh_answer_69 : decode b_Psh_answer 69 = .ok (.iload 4, 2) := by decide +kernel
theorem d_Psh_answer_71 : decode b_Psh_answer 71 = .ok (.ireturn, 1) := by decide +kernel
theorem d_Psh_ready_0 : decode b_Psh_ready 0 = .ok (.aload_n 0, 1) := by decide +kernel
theorem d_Psh_ready_1 : decode b_Psh_ready 1 = .ok (.getfield 17, 3) := by decide +kernel
theorem d_Psh_ready_4 : decode b_Psh_ready 4 = .ok (.aload_n 0, 1) := by decide +kernel
theorem d_Psh_ready_5 : decode b_Psh_ready 5 = .ok (.getfield 7, 3) := by decide +kernel
theorem d_Psh_ready_8 : decode b_Psh_ready 8 = .ok (.invokevirtual 31, 3) := by decide +kernel
theorem d_Psh_ready_11 : decode b_Psh_ready 11 = .ok (.iadd, 1) := by decide +kernel
theorem d_Psh_ready_12 : decode b_Psh_ready 12 = .ok (.ireturn, 1) := by decide +kernel
theorem d_Psh_state_0 : decode b_Psh_state 0 = .ok (.aload_n 0, 1) := by decide +kernel
theorem d_Psh_state_1 : decode b_Psh_state 1 = .ok (.getfield 17, 3) := by decide +kernel
theorem d_Psh_state_4 : decode b_Psh_state 4 = .ok (.ireturn, 1) := by decide +kernel
theorem fl_Buf_9 : fl_Ok "StreamTower$Buffer" 9 "StreamTower$Buffer" "below" "LStreamTower$Stream;" "StreamTower$Buffer" [3] 0 true (.object "StreamTower$Stream") := ⟨wd_317, by decide +kernel, Or.inl rfl, fun t ht => by obtain rfl := List.mem_singleton.mp ht; exact ⟨_, _, _, rfl, by decide, rfl⟩⟩
theorem fl_Buf_15 : fl_Ok "StreamTower$Buffer" 15 "StreamTower$Buffer" "room" "I" "StreamTower$Buffer" [3] 1 true (.int) := ⟨wd_318, by decide +kernel, Or.inl rfl, fun t ht => by obtain rfl := List.mem_singleton.mp ht; exact ⟨_, _, _, rfl, by decide, rfl⟩⟩
theorem fl_Buf_19 : fl_Ok "StreamTower$Buffer" 19 "StreamTower$Buffer" "kept" "[I" "StreamTower$Buffer" [3] 2 true (.array .int) := ⟨wd_319, by decide +kernel, Or.inl rfl, fun t ht => by obtain rfl := List.mem_singleton.mp ht; exact ⟨_, _, _, rfl, by decide, rfl⟩⟩
theorem md_Buf_init : md_Ok y_Buf_init (.code y_Buf_init b_Buf_init 3 none) 3 := ⟨wd_315, wd_11, ⟨by decide, by decide⟩, Or.inl ⟨_, _, rfl⟩⟩
theorem ml_Buf_init : (parseMethodDescriptor y_Buf_init.desc).map (fun d => d.parameters.length) = some 2 := by decide +kernel
theorem fl_Buf_56 : fl_Ok "StreamTower$Buffer" 56 "StreamTower$Buffer" "first" "I" "StreamTower$Buffer" [3] 3 false (.int) := ⟨wd_320, by decide +kernel, Or.inl rfl, fun t ht => by obtain rfl := List.mem_singleton.mp ht; exact ⟨_, _, _, rfl, by decide, rfl⟩⟩
theorem fl_Buf_23 : fl_Ok "StreamTower$Buffer" 23 "StreamTower$Buffer" "next" "I" "StreamTower$Buffer" [3] 4 false (.int) := ⟨wd_321, by decide +kernel, Or.inl rfl, fun t ht => by obtain rfl := List.mem_singleton.mp ht; exact ⟨_, _, _, rfl, by decide, rfl⟩⟩
theorem fl_Buf_26 : fl_Ok "StreamTower$Buffer" 26 "StreamTower$Buffer" "end" "I" "StreamTower$Buffer" [3] 5 false (.int) := ⟨wd_322, by decide +kernel, Or.inl rfl, fun t ht => by obtain rfl := List.mem_singleton.mp ht; exact ⟨_, _, _, rfl, by decide, rfl⟩⟩
theorem xl_answer : (parseMethodDescriptor xn_answer.desc).map (fun d => d.parameters.length) = some 3 := by decide +kernel
theorem md_Buf_fill : md_Ok y_Buf_fill (.code y_Buf_fill b_Buf_fill 2 (some .int)) 2 := ⟨wd_477, wd_11, ⟨by decide, by decide⟩, Or.inl ⟨_, _, rfl⟩⟩
theorem ml_Buf_fill : (parseMethodDescriptor y_Buf_fill.desc).map (fun d => d.parameters.length) = some 0 := by decide +kernel
theorem fl_Buf_59 : fl_Ok "StreamTower$Buffer" 59 "StreamTower$Buffer" "markLimit" "I" "StreamTower$Buffer" [3] 7 false (.int) := ⟨wd_324, by decide +kernel, Or.inl rfl, fun t ht => by obtain rfl := List.mem_singleton.mp ht; exact ⟨_, _, _, rfl, by decide, rfl⟩⟩
theorem fl_Buf_29 : fl_Ok "StreamTower$Buffer" 29 "StreamTower$Buffer" "marked" "Z" "StreamTower$Buffer" [3] 6 false (.boolean) := ⟨wd_323, by decide +kernel, Or.inl rfl, fun t ht => by obtain rfl := List.mem_singleton.mp ht; exact ⟨_, _, _, rfl, by decide, rfl⟩⟩
theorem md_Buf_forgetWhatNoMarkKeeps : md_Ok y_Buf_forgetWhatNoMarkKeeps (.code y_Buf_forgetWhatNoMarkKeeps b_Buf_forgetWhatNoMarkKeeps 1 none) 1 := ⟨wd_483, wd_11, ⟨by decide, by decide⟩, Or.inl ⟨_, _, rfl⟩⟩
theorem ml_Buf_forgetWhatNoMarkKeeps : (parseMethodDescriptor y_Buf_forgetWhatNoMarkKeeps.desc).map (fun d => d.parameters.length) = some 0 := by decide +kernel
theorem md_Buf_answer : md_Ok y_Buf_answer (.code y_Buf_answer b_Buf_answer 5 (some .int)) 5 := ⟨wd_448, wd_11, ⟨by decide, by decide⟩, Or.inl ⟨_, _, rfl⟩⟩
theorem ml_Buf_answer : (parseMethodDescriptor y_Buf_answer.desc).map (fun d => d.parameters.length) = some 3 := by decide +kernel
theorem xl_ready : (parseMethodDescriptor xn_ready.desc).map (fun d => d.parameters.length) = some 0 := by decide +kernel
theorem md_Buf_ready : md_Ok y_Buf_ready (.code y_Buf_ready b_Buf_ready 1 (some .int)) 1 := ⟨wd_133, wd_11, ⟨by decide, by decide⟩, Or.inl ⟨_, _, rfl⟩⟩
theorem ml_Buf_ready : (parseMethodDescriptor y_Buf_ready.desc).map (fun d => d.parameters.length) = some 0 := by decide +kernel
theorem md_Buf_state : md_Ok y_Buf_state (.code y_Buf_state b_Buf_state 1 (some .int)) 1 := ⟨wd_171, wd_11, ⟨by decide, by decide⟩, Or.inl ⟨_, _, rfl⟩⟩
theorem ml_Buf_state : (parseMethodDescriptor y_Buf_state.desc).map (fun d => d.parameters.length) = some 0 := by decide +kernel
theorem md_Buf_canBeMarked : md_Ok y_Buf_canBeMarked (.code y_Buf_canBeMarked b_Buf_canBeMarked 1 (some .boolean)) 1 := ⟨wd_594, wd_11, ⟨by decide, by decide⟩, Or.inl ⟨_, _, rfl⟩⟩
theorem ml_Buf_canBeMarked : (parseMethodDescriptor y_Buf_canBeMarked.desc).map (fun d => d.parameters.length) = some 0 := by decide +kernel
theorem md_Buf_hasMark : md_Ok y_Buf_hasMark (.code y_Buf_hasMark b_Buf_hasMark 1 (some .boolean)) 1 := ⟨wd_658, wd_11, ⟨by decide, by decide⟩, Or.inl ⟨_, _, rfl⟩⟩
theorem ml_Buf_hasMark : (parseMethodDescriptor y_Buf_hasMark.desc).map (fun d => d.parameters.length) = some 0 := by decide +kernel
theorem md_Buf_takeMark : md_Ok y_Buf_takeMark (.code y_Buf_takeMark b_Buf_takeMark 2 none) 2 := ⟨wd_624, wd_11, ⟨by decide, by decide⟩, Or.inl ⟨_, _, rfl⟩⟩
theorem ml_Buf_takeMark : (parseMethodDescriptor y_Buf_takeMark.desc).map (fun d => d.parameters.length) = some 1 := by decide +kernel
theorem md_Buf_goBack : md_Ok y_Buf_goBack (.code y_Buf_goBack b_Buf_goBack 1 none) 1 := ⟨wd_673, wd_11, ⟨by decide, by decide⟩, Or.inl ⟨_, _, rfl⟩⟩
theorem ml_Buf_goBack : (parseMethodDescriptor y_Buf_goBack.desc).map (fun d => d.parameters.length) = some 0 := by decide +kernel
theorem fl_Pas_7 : fl_Ok "StreamTower$Passing" 7 "StreamTower$Passing" "below" "LStreamTower$Stream;" "StreamTower$Passing" [5, 6, 7] 0 true (.object "StreamTower$Stream") := ⟨wd_369, by decide +kernel, Or.inl rfl, fun t ht => by
    simp only [List.mem_cons, List.not_mem_nil, or_false] at ht
    rcases ht with rfl | rfl | rfl <;> exact ⟨_, _, _, rfl, by decide, rfl⟩⟩
theorem md_Pas_init : md_Ok y_Pas_init (.code y_Pas_init b_Pas_init 2 none) 2 := ⟨wd_365, wd_13, ⟨by decide, by decide⟩, Or.inl ⟨_, _, rfl⟩⟩
theorem ml_Pas_init : (parseMethodDescriptor y_Pas_init.desc).map (fun d => d.parameters.length) = some 1 := by decide +kernel
theorem fl_Cod_9 : fl_Ok "StreamTower$Code" 9 "StreamTower$Code" "key" "I" "StreamTower$Code" [6] 1 true (.int) := ⟨wd_389, by decide +kernel, Or.inl rfl, fun t ht => by obtain rfl := List.mem_singleton.mp ht; exact ⟨_, _, _, rfl, by decide, rfl⟩⟩
theorem md_Cod_init : md_Ok y_Cod_init (.code y_Cod_init b_Cod_init 3 none) 3 := ⟨wd_387, wd_15, ⟨by decide, by decide⟩, Or.inl ⟨_, _, rfl⟩⟩
theorem ml_Cod_init : (parseMethodDescriptor y_Cod_init.desc).map (fun d => d.parameters.length) = some 2 := by decide +kernel
theorem fl_Cod_15 : fl_Ok "StreamTower$Code" 15 "StreamTower$Code" "below" "LStreamTower$Stream;" "StreamTower$Passing" [6] 0 true (.object "StreamTower$Stream") := ⟨wd_370, by decide +kernel, Or.inr wd_371, fun t ht => by obtain rfl := List.mem_singleton.mp ht; exact ⟨_, _, _, rfl, by decide, rfl⟩⟩
theorem fl_Cod_25 : fl_Ok "StreamTower$Code" 25 "StreamTower$Code" "coded" "I" "StreamTower$Code" [6] 2 false (.int) := ⟨wd_390, by decide +kernel, Or.inl rfl, fun t ht => by obtain rfl := List.mem_singleton.mp ht; exact ⟨_, _, _, rfl, by decide, rfl⟩⟩
theorem md_Cod_answer : md_Ok y_Cod_answer (.code y_Cod_answer b_Cod_answer 6 (some .int)) 6 := ⟨wd_451, wd_15, ⟨by decide, by decide⟩, Or.inl ⟨_, _, rfl⟩⟩
theorem ml_Cod_answer : (parseMethodDescriptor y_Cod_answer.desc).map (fun d => d.parameters.length) = some 3 := by decide +kernel
theorem md_Cod_state : md_Ok y_Cod_state (.code y_Cod_state b_Cod_state 1 (some .int)) 1 := ⟨wd_174, wd_15, ⟨by decide, by decide⟩, Or.inl ⟨_, _, rfl⟩⟩
theorem ml_Cod_state : (parseMethodDescriptor y_Cod_state.desc).map (fun d => d.parameters.length) = some 0 := by decide +kernel
theorem fl_Cod_28 : fl_Ok "StreamTower$Code" 28 "StreamTower$Code" "codedAtMark" "I" "StreamTower$Code" [6] 3 false (.int) := ⟨wd_391, by decide +kernel, Or.inl rfl, fun t ht => by obtain rfl := List.mem_singleton.mp ht; exact ⟨_, _, _, rfl, by decide, rfl⟩⟩
theorem md_Cod_remember : md_Ok y_Cod_remember (.code y_Cod_remember b_Cod_remember 1 none) 1 := ⟨wd_634, wd_15, ⟨by decide, by decide⟩, Or.inl ⟨_, _, rfl⟩⟩
theorem ml_Cod_remember : (parseMethodDescriptor y_Cod_remember.desc).map (fun d => d.parameters.length) = some 0 := by decide +kernel
theorem md_Cod_recall : md_Ok y_Cod_recall (.code y_Cod_recall b_Cod_recall 1 none) 1 := ⟨wd_683, wd_15, ⟨by decide, by decide⟩, Or.inl ⟨_, _, rfl⟩⟩
theorem ml_Cod_recall : (parseMethodDescriptor y_Cod_recall.desc).map (fun d => d.parameters.length) = some 0 := by decide +kernel
theorem fl_Lim_9 : fl_Ok "StreamTower$Limit" 9 "StreamTower$Limit" "left" "I" "StreamTower$Limit" [5] 1 false (.int) := ⟨wd_367, by decide +kernel, Or.inl rfl, fun t ht => by obtain rfl := List.mem_singleton.mp ht; exact ⟨_, _, _, rfl, by decide, rfl⟩⟩
theorem fl_Lim_15 : fl_Ok "StreamTower$Limit" 15 "StreamTower$Limit" "leftAtMark" "I" "StreamTower$Limit" [5] 2 false (.int) := ⟨wd_368, by decide +kernel, Or.inl rfl, fun t ht => by obtain rfl := List.mem_singleton.mp ht; exact ⟨_, _, _, rfl, by decide, rfl⟩⟩
theorem md_Lim_init : md_Ok y_Lim_init (.code y_Lim_init b_Lim_init 3 none) 3 := ⟨wd_362, wd_14, ⟨by decide, by decide⟩, Or.inl ⟨_, _, rfl⟩⟩
theorem ml_Lim_init : (parseMethodDescriptor y_Lim_init.desc).map (fun d => d.parameters.length) = some 2 := by decide +kernel
theorem fl_Lim_18 : fl_Ok "StreamTower$Limit" 18 "StreamTower$Limit" "below" "LStreamTower$Stream;" "StreamTower$Passing" [5] 0 true (.object "StreamTower$Stream") := ⟨wd_374, by decide +kernel, Or.inr wd_375, fun t ht => by obtain rfl := List.mem_singleton.mp ht; exact ⟨_, _, _, rfl, by decide, rfl⟩⟩
theorem md_Lim_answer : md_Ok y_Lim_answer (.code y_Lim_answer b_Lim_answer 5 (some .int)) 5 := ⟨wd_454, wd_14, ⟨by decide, by decide⟩, Or.inl ⟨_, _, rfl⟩⟩
theorem ml_Lim_answer : (parseMethodDescriptor y_Lim_answer.desc).map (fun d => d.parameters.length) = some 3 := by decide +kernel
theorem md_Lim_ready : md_Ok y_Lim_ready (.code y_Lim_ready b_Lim_ready 1 (some .int)) 1 := ⟨wd_139, wd_14, ⟨by decide, by decide⟩, Or.inl ⟨_, _, rfl⟩⟩
theorem ml_Lim_ready : (parseMethodDescriptor y_Lim_ready.desc).map (fun d => d.parameters.length) = some 0 := by decide +kernel
theorem md_Lim_state : md_Ok y_Lim_state (.code y_Lim_state b_Lim_state 1 (some .int)) 1 := ⟨wd_177, wd_14, ⟨by decide, by decide⟩, Or.inl ⟨_, _, rfl⟩⟩
theorem ml_Lim_state : (parseMethodDescriptor y_Lim_state.desc).map (fun d => d.parameters.length) = some 0 := by decide +kernel
theorem md_Lim_remember : md_Ok y_Lim_remember (.code y_Lim_remember b_Lim_remember 1 none) 1 := ⟨wd_637, wd_14, ⟨by decide, by decide⟩, Or.inl ⟨_, _, rfl⟩⟩
theorem ml_Lim_remember : (parseMethodDescriptor y_Lim_remember.desc).map (fun d => d.parameters.length) = some 0 := by decide +kernel
theorem md_Lim_recall : md_Ok y_Lim_recall (.code y_Lim_recall b_Lim_recall 1 none) 1 := ⟨wd_686, wd_14, ⟨by decide, by decide⟩, Or.inl ⟨_, _, rfl⟩⟩
theorem ml_Lim_recall : (parseMethodDescriptor y_Lim_recall.desc).map (fun d => d.parameters.length) = some 0 := by decide +kernel
theorem md_Lin_init : md_Ok y_Lin_init (.code y_Lin_init b_Lin_init 2 none) 2 := ⟨wd_404, wd_16, ⟨by decide, by decide⟩, Or.inl ⟨_, _, rfl⟩⟩
theorem ml_Lin_init : (parseMethodDescriptor y_Lin_init.desc).map (fun d => d.parameters.length) = some 1 := by decide +kernel
theorem fl_Lin_25 : fl_Ok "StreamTower$Lines" 25 "StreamTower$Lines" "lastWasReturn" "Z" "StreamTower$Lines" [7] 3 false (.boolean) := ⟨wd_408, by decide +kernel, Or.inl rfl, fun t ht => by obtain rfl := List.mem_singleton.mp ht; exact ⟨_, _, _, rfl, by decide, rfl⟩⟩
theorem fl_Lin_29 : fl_Ok "StreamTower$Lines" 29 "StreamTower$Lines" "lineEnds" "I" "StreamTower$Lines" [7] 1 false (.int) := ⟨wd_406, by decide +kernel, Or.inl rfl, fun t ht => by obtain rfl := List.mem_singleton.mp ht; exact ⟨_, _, _, rfl, by decide, rfl⟩⟩
theorem md_Lin_countLineEnd : md_Ok y_Lin_countLineEnd (.code y_Lin_countLineEnd b_Lin_countLineEnd 2 none) 2 := ⟨wd_473, wd_16, ⟨by decide, by decide⟩, Or.inl ⟨_, _, rfl⟩⟩
theorem ml_Lin_countLineEnd : (parseMethodDescriptor y_Lin_countLineEnd.desc).map (fun d => d.parameters.length) = some 1 := by decide +kernel
theorem fl_Lin_9 : fl_Ok "StreamTower$Lines" 9 "StreamTower$Lines" "below" "LStreamTower$Stream;" "StreamTower$Passing" [7] 0 true (.object "StreamTower$Stream") := ⟨wd_372, by decide +kernel, Or.inr wd_373, fun t ht => by obtain rfl := List.mem_singleton.mp ht; exact ⟨_, _, _, rfl, by decide, rfl⟩⟩
theorem md_Lin_answer : md_Ok y_Lin_answer (.code y_Lin_answer b_Lin_answer 6 (some .int)) 6 := ⟨wd_457, wd_16, ⟨by decide, by decide⟩, Or.inl ⟨_, _, rfl⟩⟩
theorem ml_Lin_answer : (parseMethodDescriptor y_Lin_answer.desc).map (fun d => d.parameters.length) = some 3 := by decide +kernel
theorem md_Lin_state : md_Ok y_Lin_state (.code y_Lin_state b_Lin_state 1 (some .int)) 1 := ⟨wd_180, wd_16, ⟨by decide, by decide⟩, Or.inl ⟨_, _, rfl⟩⟩
theorem ml_Lin_state : (parseMethodDescriptor y_Lin_state.desc).map (fun d => d.parameters.length) = some 0 := by decide +kernel
theorem fl_Lin_33 : fl_Ok "StreamTower$Lines" 33 "StreamTower$Lines" "lineEndsAtMark" "I" "StreamTower$Lines" [7] 2 false (.int) := ⟨wd_407, by decide +kernel, Or.inl rfl, fun t ht => by obtain rfl := List.mem_singleton.mp ht; exact ⟨_, _, _, rfl, by decide, rfl⟩⟩
theorem fl_Lin_36 : fl_Ok "StreamTower$Lines" 36 "StreamTower$Lines" "lastWasReturnAtMark" "Z" "StreamTower$Lines" [7] 4 false (.boolean) := ⟨wd_409, by decide +kernel, Or.inl rfl, fun t ht => by obtain rfl := List.mem_singleton.mp ht; exact ⟨_, _, _, rfl, by decide, rfl⟩⟩
theorem md_Lin_remember : md_Ok y_Lin_remember (.code y_Lin_remember b_Lin_remember 1 none) 1 := ⟨wd_640, wd_16, ⟨by decide, by decide⟩, Or.inl ⟨_, _, rfl⟩⟩
theorem ml_Lin_remember : (parseMethodDescriptor y_Lin_remember.desc).map (fun d => d.parameters.length) = some 0 := by decide +kernel
theorem md_Lin_recall : md_Ok y_Lin_recall (.code y_Lin_recall b_Lin_recall 1 none) 1 := ⟨wd_689, wd_16, ⟨by decide, by decide⟩, Or.inl ⟨_, _, rfl⟩⟩
theorem ml_Lin_recall : (parseMethodDescriptor y_Lin_recall.desc).map (fun d => d.parameters.length) = some 0 := by decide +kernel
theorem md_Pas_ready : md_Ok y_Pas_ready (.code y_Pas_ready b_Pas_ready 1 (some .int)) 1 := ⟨wd_136, wd_13, ⟨by decide, by decide⟩, Or.inl ⟨_, _, rfl⟩⟩
theorem ml_Pas_ready : (parseMethodDescriptor y_Pas_ready.desc).map (fun d => d.parameters.length) = some 0 := by decide +kernel
theorem xl_canBeMarked : (parseMethodDescriptor xn_canBeMarked.desc).map (fun d => d.parameters.length) = some 0 := by decide +kernel
theorem md_Pas_canBeMarked : md_Ok y_Pas_canBeMarked (.code y_Pas_canBeMarked b_Pas_canBeMarked 1 (some .boolean)) 1 := ⟨wd_597, wd_13, ⟨by decide, by decide⟩, Or.inl ⟨_, _, rfl⟩⟩
theorem ml_Pas_canBeMarked : (parseMethodDescriptor y_Pas_canBeMarked.desc).map (fun d => d.parameters.length) = some 0 := by decide +kernel
theorem xl_hasMark : (parseMethodDescriptor xn_hasMark.desc).map (fun d => d.parameters.length) = some 0 := by decide +kernel
theorem md_Pas_hasMark : md_Ok y_Pas_hasMark (.code y_Pas_hasMark b_Pas_hasMark 1 (some .boolean)) 1 := ⟨wd_661, wd_13, ⟨by decide, by decide⟩, Or.inl ⟨_, _, rfl⟩⟩
theorem ml_Pas_hasMark : (parseMethodDescriptor y_Pas_hasMark.desc).map (fun d => d.parameters.length) = some 0 := by decide +kernel
theorem xl_takeMark : (parseMethodDescriptor xn_takeMark.desc).map (fun d => d.parameters.length) = some 1 := by decide +kernel
theorem xl_remember : (parseMethodDescriptor xn_remember.desc).map (fun d => d.parameters.length) = some 0 := by decide +kernel
theorem md_Pas_takeMark : md_Ok y_Pas_takeMark (.code y_Pas_takeMark b_Pas_takeMark 2 none) 2 := ⟨wd_627, wd_13, ⟨by decide, by decide⟩, Or.inl ⟨_, _, rfl⟩⟩
theorem ml_Pas_takeMark : (parseMethodDescriptor y_Pas_takeMark.desc).map (fun d => d.parameters.length) = some 1 := by decide +kernel
theorem xl_goBack : (parseMethodDescriptor xn_goBack.desc).map (fun d => d.parameters.length) = some 0 := by decide +kernel
theorem xl_recall : (parseMethodDescriptor xn_recall.desc).map (fun d => d.parameters.length) = some 0 := by decide +kernel
theorem md_Pas_goBack : md_Ok y_Pas_goBack (.code y_Pas_goBack b_Pas_goBack 1 none) 1 := ⟨wd_676, wd_13, ⟨by decide, by decide⟩, Or.inl ⟨_, _, rfl⟩⟩
theorem ml_Pas_goBack : (parseMethodDescriptor y_Pas_goBack.desc).map (fun d => d.parameters.length) = some 0 := by decide +kernel
theorem fl_Psh_7 : fl_Ok "StreamTower$Pushback" 7 "StreamTower$Pushback" "below" "LStreamTower$Stream;" "StreamTower$Pushback" [4] 0 true (.object "StreamTower$Stream") := ⟨wd_348, by decide +kernel, Or.inl rfl, fun t ht => by obtain rfl := List.mem_singleton.mp ht; exact ⟨_, _, _, rfl, by decide, rfl⟩⟩
theorem fl_Psh_13 : fl_Ok "StreamTower$Pushback" 13 "StreamTower$Pushback" "bytes" "[I" "StreamTower$Pushback" [4] 1 true (.array .int) := ⟨wd_349, by decide +kernel, Or.inl rfl, fun t ht => by obtain rfl := List.mem_singleton.mp ht; exact ⟨_, _, _, rfl, by decide, rfl⟩⟩
theorem md_Psh_init : md_Ok y_Psh_init (.code y_Psh_init b_Psh_init 3 none) 3 := ⟨wd_346, wd_12, ⟨by decide, by decide⟩, Or.inl ⟨_, _, rfl⟩⟩
theorem ml_Psh_init : (parseMethodDescriptor y_Psh_init.desc).map (fun d => d.parameters.length) = some 2 := by decide +kernel
theorem fl_Psh_17 : fl_Ok "StreamTower$Pushback" 17 "StreamTower$Pushback" "count" "I" "StreamTower$Pushback" [4] 2 false (.int) := ⟨wd_350, by decide +kernel, Or.inl rfl, fun t ht => by obtain rfl := List.mem_singleton.mp ht; exact ⟨_, _, _, rfl, by decide, rfl⟩⟩
theorem md_Psh_putBack : md_Ok y_Psh_putBack (.code y_Psh_putBack b_Psh_putBack 2 (some .boolean)) 2 := ⟨wd_705, wd_12, ⟨by decide, by decide⟩, Or.inl ⟨_, _, rfl⟩⟩
theorem ml_Psh_putBack : (parseMethodDescriptor y_Psh_putBack.desc).map (fun d => d.parameters.length) = some 1 := by decide +kernel
theorem md_Psh_answer : md_Ok y_Psh_answer (.code y_Psh_answer b_Psh_answer 6 (some .int)) 6 := ⟨wd_460, wd_12, ⟨by decide, by decide⟩, Or.inl ⟨_, _, rfl⟩⟩
theorem ml_Psh_answer : (parseMethodDescriptor y_Psh_answer.desc).map (fun d => d.parameters.length) = some 3 := by decide +kernel
theorem md_Psh_ready : md_Ok y_Psh_ready (.code y_Psh_ready b_Psh_ready 1 (some .int)) 1 := ⟨wd_142, wd_12, ⟨by decide, by decide⟩, Or.inl ⟨_, _, rfl⟩⟩
theorem ml_Psh_ready : (parseMethodDescriptor y_Psh_ready.desc).map (fun d => d.parameters.length) = some 0 := by decide +kernel
theorem md_Psh_state : md_Ok y_Psh_state (.code y_Psh_state b_Psh_state 1 (some .int)) 1 := ⟨wd_183, wd_12, ⟨by decide, by decide⟩, Or.inl ⟨_, _, rfl⟩⟩
theorem ml_Psh_state : (parseMethodDescriptor y_Psh_state.desc).map (fun d => d.parameters.length) = some 0 := by decide +kernel
def f_Buf_init (t0 : Nat) (x1 : Nat) (x2 : Int32) (h0 : Hs_t) : Rs_t := bd_V (f_Str_init t0 h0) (fun h1 => (pt_V [3] 0 h1 t0 (.ref x1)).bind fun h2 => (pt_V [3] 1 h2 t0 (.int x2)).bind fun h3 => (nw_I 48 (32 + x2) h3).bind fun h4 => (pt_V [3] 2 h4 t0 (.ref h3.1)).bind fun h5 => re_V h5)
set_option maxRecDepth 100000 in
set_option maxHeartbeats 4000000 in
theorem c_Buf_init {l : Launch} {s0 : State} {A0 : Array Value} {G : Gx_t} (hG : G_0 l s0 A0 G) (rm : Room) (hrm : rm_Ok 1 48 2 32 rm) (t0 : Nat) (x1 : Nat) (x2 : Int32) (h0 : Hs_t) (r : Outcome × Hs_t) (heq : f_Buf_init t0 x1 x2 h0 = some r) : M_X G s0 l y_Buf_init (.code y_Buf_init b_Buf_init 3 none) rm [.ref t0, .ref x1, .int x2] h0 r := by
  refine M_X.of (by decide) hG (fun p e s m below meth c H hc hR => ?_)
  have hx := hc.x
  have hb := hc.b
  obtain ⟨hm1, hm2, hm3, hm4⟩ := id hrm
  have hLo : Lo_k s0 [] := fun _ hq => absurd hq List.not_mem_nil
  have hl := lv_entry ([.ref t0, .ref x1, .int x2]) (n := 3) (Nat.le_of_ble_eq_true rfl)
  rw [lg_entry_eq]
  generalize (lg_sl ([.ref t0, .ref x1, .int x2]) ++ List.replicate (3 - (lg_sl ([.ref t0, .ref x1, .int x2])).length) Slot.unset).toArray = ls at hl ⊢
  have hl : lv_has ls 3 [(0, .ref t0), (1, .ref x1), (2, .int x2)] := hl
  generalize hle : ([] : List Loc) = locs at hLo ⊢
  unfold f_Buf_init at heq
  refine lv_aload_n hx hb d_Buf_init_0 rfl (lv_at hl 0 rfl) ?_
  refine x_bV (mc := 0) (ms := 0) (st := []) hc hLo heq ⟨by omega, by omega⟩ (fun r9 h9 => x_runIN hc (c_Str_init hc.g rm_Str_init rk_Str_init _ _ _ h9) md_Str_init hR wd_316 wd_35 rfl ⟨_, rfl⟩ hl.1 ml_Str_init rfl (Nat.le_of_ble_eq_true rfl) d_Buf_init_1 ⟨by show 1 + 1 ≤ _; omega, by show 8 + (1 + 11) + (12) ≤ _; omega⟩ ⟨by show 0 + 0 ≤ _; omega, by show 0 + 0 ≤ _; omega⟩) (fun h1 H locs hR hLo heq => ?_)
  refine lv_aload_n hx hb d_Buf_init_4 rfl (lv_at hl 0 rfl) ?_
  refine lv_aload_n hx hb d_Buf_init_5 rfl (lv_at hl 1 rfl) ?_
  refine x_pV hc hR hLo fl_Buf_9 (Or.inr ⟨rfl, rfl⟩) rfl rfl heq d_Buf_init_6 (fun h2 H locs hR hLo heq => ?_)
  refine lv_aload_n hx hb d_Buf_init_9 rfl (lv_at hl 0 rfl) ?_
  refine lv_iload_n hx hb d_Buf_init_10 rfl (lv_at hl 2 rfl) ?_
  refine x_pV hc hR hLo fl_Buf_15 (Or.inr ⟨rfl, rfl⟩) rfl rfl heq d_Buf_init_11 (fun h3 H locs hR hLo heq => ?_)
  refine lv_aload_n hx hb d_Buf_init_14 rfl (lv_at hl 0 rfl) ?_
  refine lv_bipush (v := 32) hx hb d_Buf_init_15 (by decide) ?_
  refine lv_iload_n hx hb d_Buf_init_17 rfl (lv_at hl 2 rfl) ?_
  refine lv_iadd hx hb d_Buf_init_18 ?_
  refine x_newI hc hR wd_55 (by decide) ⟨by omega, by omega⟩ heq d_Buf_init_19 (fun h4 H hR heq => ?_)
  refine x_pV hc hR hLo fl_Buf_19 (Or.inr ⟨rfl, rfl⟩) rfl rfl heq d_Buf_init_21 (fun h5 H locs hR hLo heq => ?_)
  exact x_vret hc hR hLo ⟨by omega, by omega⟩ heq d_Buf_init_24
def rm_Buf_init : Room := { frames := 2, cells := 1, slots := 48, locals := 32 }
theorem rk_Buf_init : rm_Ok 1 48 2 32 rm_Buf_init := ⟨Nat.le_refl _, Nat.le_refl _, Nat.le_refl _, Nat.le_refl _⟩
def f_Buf_fill_b86 (w_answer : Nat → Int32 → Nat → Int32 → Hs_t → Rs_t) (x1 : Int32) (h0 : Hs_t) : Rs_t := re_I x1 h0
def f_Buf_fill (w_answer : Nat → Int32 → Nat → Int32 → Hs_t → Rs_t) (t0 : Nat) (h0 : Hs_t) : Rs_t := (fd_A [3] 2 h0 t0).bind fun v1 => (fd_I [3] 3 h0 t0).bind fun v2 => (fd_A [3] 2 h0 t0).bind fun v3 => (fd_I [3] 4 h0 t0).bind fun v4 => (fd_I [3] 3 h0 t0).bind fun v5 => (cp_I h0 v1 v2 v3 0 (v4 - v5)).bind fun h1 => (fd_I [3] 4 h1 t0).bind fun v6 => (fd_I [3] 3 h1 t0).bind fun v7 => (pt_V [3] 4 h1 t0 (.int (v6 - v7))).bind fun h2 => (fd_I [3] 4 h2 t0).bind fun v8 => (pt_V [3] 5 h2 t0 (.int v8)).bind fun h3 => (pt_V [3] 3 h3 t0 (.int 0)).bind fun h4 => (fd_A [3] 0 h4 t0).bind fun v9 => (fd_I [3] 1 h4 t0).bind fun v10 => (fd_A [3] 2 h4 t0).bind fun v11 => (fd_I [3] 5 h4 t0).bind fun v12 => bd_I (w_answer v9 v10 v11 v12 h4) (fun v13 h5 => if v13 = (-1) then (f_Buf_fill_b86 w_answer v13 h5) else ((fd_I [3] 5 h5 t0).bind fun v14 => (pt_V [3] 5 h5 t0 (.int (v14 + v13))).bind fun h6 => f_Buf_fill_b86 w_answer v13 h6))
set_option maxRecDepth 100000 in
set_option maxHeartbeats 4000000 in
theorem k_Buf_fill_b86 {p : Program} {l : Launch} {e : Env} {s : State} {m : MethodId} {args : Array Value} {below : List Frame} {meth : Method} {c : Code} {s0 : State} {A0 : Array Value} {G : Gx_t} {r : Outcome × Hs_t} {rm : Room} (FW LW : Nat) (w_answer : Nat → Int32 → Nat → Int32 → Hs_t → Rs_t) (hc : Cx_t p s m meth c s0 A0 l G y_Buf_fill b_Buf_fill 2 (some .int) []) (hrm : rm_Ok 0 0 (FW + 1) (LW + 40) rm) (hw_answer : ∀ (a : Nat) (x1 : Int32) (x2 : Nat) (x3 : Int32) (h : Hs_t) (r0 : Outcome × Hs_t), w_answer a x1 x2 x3 h = some r0 → V_X G s0 l xn_answer { frames := FW, cells := 0, slots := 0, locals := LW } a [.int x1, .ref x2, .int x3] h r0) : ∀ (x1 : Int32) (h0 : Hs_t) (H : Heap) (locs : List Loc) (ls : Array Slot), Rp_h G s0.heap h0 H → Lo_k s0 locs → lv_has ls 2 [(1, .int x1)] → f_Buf_fill_b86 w_answer x1 h0 = some r → W p l e rm s m args below meth c H locs 0 0 (xq_MQ G s0 below r s rm.cells rm.slots) (F0 m 86 ls []) := by
  have hx := hc.x
  have hb := hc.b
  obtain ⟨hm1, hm2, hm3, hm4⟩ := id hrm
  intro x1 h0 H locs ls hR hLo hl heq
  unfold f_Buf_fill_b86 at heq
  refine lv_iload_n hx hb d_Buf_fill_86 rfl (lv_at hl 0 rfl) ?_
  exact x_iret hc hR hLo ⟨by omega, by omega⟩ heq d_Buf_fill_87
set_option maxRecDepth 100000 in
set_option maxHeartbeats 4000000 in
theorem c_Buf_fill {l : Launch} {s0 : State} {A0 : Array Value} {G : Gx_t} (hG : G_0 l s0 A0 G) (FW LW : Nat) (w_answer : Nat → Int32 → Nat → Int32 → Hs_t → Rs_t) (rm : Room) (hrm : rm_Ok 0 0 (FW + 1) (LW + 40) rm) (hw_answer : ∀ (a : Nat) (x1 : Int32) (x2 : Nat) (x3 : Int32) (h : Hs_t) (r0 : Outcome × Hs_t), w_answer a x1 x2 x3 h = some r0 → V_X G s0 l xn_answer { frames := FW, cells := 0, slots := 0, locals := LW } a [.int x1, .ref x2, .int x3] h r0) (t0 : Nat) (h0 : Hs_t) (r : Outcome × Hs_t) (heq : f_Buf_fill w_answer t0 h0 = some r) : M_X G s0 l y_Buf_fill (.code y_Buf_fill b_Buf_fill 2 (some .int)) rm [.ref t0] h0 r := by
  refine M_X.of (by decide) hG (fun p e s m below meth c H hc hR => ?_)
  have hx := hc.x
  have hb := hc.b
  obtain ⟨hm1, hm2, hm3, hm4⟩ := id hrm
  have hLo : Lo_k s0 [] := fun _ hq => absurd hq List.not_mem_nil
  have hl := lv_entry ([.ref t0]) (n := 2) (Nat.le_of_ble_eq_true rfl)
  rw [lg_entry_eq]
  generalize (lg_sl ([.ref t0]) ++ List.replicate (2 - (lg_sl ([.ref t0])).length) Slot.unset).toArray = ls at hl ⊢
  have hl : lv_has ls 2 [(0, .ref t0)] := hl
  generalize hle : ([] : List Loc) = locs at hLo ⊢
  unfold f_Buf_fill at heq
  refine lv_aload_n hx hb d_Buf_fill_0 rfl (lv_at hl 0 rfl) ?_
  refine x_gA hc hR fl_Buf_19 heq d_Buf_fill_1 (fun v1 heq => ?_)
  refine lv_aload_n hx hb d_Buf_fill_4 rfl (lv_at hl 0 rfl) ?_
  refine x_gI hc hR fl_Buf_56 heq d_Buf_fill_5 (fun v2 heq => ?_)
  refine lv_aload_n hx hb d_Buf_fill_8 rfl (lv_at hl 0 rfl) ?_
  refine x_gA hc hR fl_Buf_19 heq d_Buf_fill_9 (fun v3 heq => ?_)
  refine lv_iconst (v := 0) hx hb d_Buf_fill_12 (by decide) ?_
  refine lv_aload_n hx hb d_Buf_fill_13 rfl (lv_at hl 0 rfl) ?_
  refine x_gI hc hR fl_Buf_23 heq d_Buf_fill_14 (fun v4 heq => ?_)
  refine lv_aload_n hx hb d_Buf_fill_17 rfl (lv_at hl 0 rfl) ?_
  refine x_gI hc hR fl_Buf_56 heq d_Buf_fill_18 (fun v5 heq => ?_)
  refine lv_isub hx hb d_Buf_fill_21 ?_
  refine x_cpI hc hR hLo hl.1 wd_478 wd_468 wd_467 wd_18 (by omega) (by show 0 + (nativeFrameWords "java/lang/System" "arraycopy" 5 + 11) ≤ _; have := cp_w; omega) heq d_Buf_fill_22 (fun h1 H locs hR hLo heq => ?_)
  refine lv_aload_n hx hb d_Buf_fill_25 rfl (lv_at hl 0 rfl) ?_
  refine lv_dup hx hb d_Buf_fill_26 rfl ?_
  refine x_gI hc hR fl_Buf_23 heq d_Buf_fill_27 (fun v6 heq => ?_)
  refine lv_aload_n hx hb d_Buf_fill_30 rfl (lv_at hl 0 rfl) ?_
  refine x_gI hc hR fl_Buf_56 heq d_Buf_fill_31 (fun v7 heq => ?_)
  refine lv_isub hx hb d_Buf_fill_34 ?_
  refine x_pV hc hR hLo fl_Buf_23 (Or.inl rfl) rfl rfl heq d_Buf_fill_35 (fun h2 H locs hR hLo heq => ?_)
  refine lv_aload_n hx hb d_Buf_fill_38 rfl (lv_at hl 0 rfl) ?_
  refine lv_aload_n hx hb d_Buf_fill_39 rfl (lv_at hl 0 rfl) ?_
  refine x_gI hc hR fl_Buf_23 heq d_Buf_fill_40 (fun v8 heq => ?_)
  refine x_pV hc hR hLo fl_Buf_26 (Or.inl rfl) rfl rfl heq d_Buf_fill_43 (fun h3 H locs hR hLo heq => ?_)
  refine lv_aload_n hx hb d_Buf_fill_46 rfl (lv_at hl 0 rfl) ?_
  refine lv_iconst (v := 0) hx hb d_Buf_fill_47 (by decide) ?_
  refine x_pV hc hR hLo fl_Buf_56 (Or.inl rfl) rfl rfl heq d_Buf_fill_48 (fun h4 H locs hR hLo heq => ?_)
  refine lv_aload_n hx hb d_Buf_fill_51 rfl (lv_at hl 0 rfl) ?_
  refine x_gA hc hR fl_Buf_9 heq d_Buf_fill_52 (fun v9 heq => ?_)
  refine lv_aload_n hx hb d_Buf_fill_55 rfl (lv_at hl 0 rfl) ?_
  refine x_gI hc hR fl_Buf_15 heq d_Buf_fill_56 (fun v10 heq => ?_)
  refine lv_aload_n hx hb d_Buf_fill_59 rfl (lv_at hl 0 rfl) ?_
  refine x_gA hc hR fl_Buf_19 heq d_Buf_fill_60 (fun v11 heq => ?_)
  refine lv_aload_n hx hb d_Buf_fill_63 rfl (lv_at hl 0 rfl) ?_
  refine x_gI hc hR fl_Buf_26 heq d_Buf_fill_64 (fun v12 heq => ?_)
  refine x_bI (mc := 0) (ms := 0) (st := []) hc hLo heq ⟨by omega, by omega⟩ (fun r9 h9 => x_runW hc (hw_answer _ _ _ _ _ _ h9) hR wd_449 wd_445 (Or.inl wd_444) (by decide) hl.1 xl_answer rfl (Nat.le_of_ble_eq_true rfl) d_Buf_fill_67 ⟨by show FW + 0 + 1 ≤ _; omega, by show 8 + (10 + 11) + (LW + 0) ≤ _; omega⟩ ⟨by show 0 + 0 ≤ _; omega, by show 0 + 0 ≤ _; omega⟩) (fun v13 h5 H locs hR hLo heq => ?_)
  refine lv_istore_n (lv' := [(1, .int v13), (0, .ref t0)]) hx hb d_Buf_fill_70 rfl hl (by decide) rfl (fun ls hl => ?_)
  refine lv_iload_n hx hb d_Buf_fill_71 rfl (lv_at hl 0 rfl) ?_
  refine lv_iconst (v := (-1)) hx hb d_Buf_fill_72 (by decide) ?_
  refine lv_icmp_eq (tgt := 86) hx hb d_Buf_fill_73 rfl (fun hq => ?_) (fun hq => ?_)
  · rw [if_pos hq] at heq
    refine W.widen (k := 0) (n := 0) (by omega) (by omega) ?_
    exact k_Buf_fill_b86 FW LW w_answer hc hrm hw_answer v13 h5 H locs ls hR hLo (lv_sub hl [0] rfl) heq
  · rw [if_neg hq] at heq
    refine lv_aload_n hx hb d_Buf_fill_76 rfl (lv_at hl 1 rfl) ?_
    refine lv_dup hx hb d_Buf_fill_77 rfl ?_
    refine x_gI hc hR fl_Buf_26 heq d_Buf_fill_78 (fun v14 heq => ?_)
    refine lv_iload_n hx hb d_Buf_fill_81 rfl (lv_at hl 0 rfl) ?_
    refine lv_iadd hx hb d_Buf_fill_82 ?_
    refine x_pV hc hR hLo fl_Buf_26 (Or.inl rfl) rfl rfl heq d_Buf_fill_83 (fun h6 H locs hR hLo heq => ?_)
    refine W.widen (k := 0) (n := 0) (by omega) (by omega) ?_
    exact k_Buf_fill_b86 FW LW w_answer hc hrm hw_answer v13 h6 H locs ls hR hLo (lv_sub hl [0] rfl) heq
def f_Buf_forgetWhatNoMarkKeeps_b36 (h0 : Hs_t) : Rs_t := re_V h0
def f_Buf_forgetWhatNoMarkKeeps_b21 (t0 : Nat) (h0 : Hs_t) : Rs_t := (fd_I [3] 6 h0 t0).bind fun v4 => if v4 = 0 then ((fd_I [3] 4 h0 t0).bind fun v5 => (pt_V [3] 3 h0 t0 (.int v5)).bind fun h2 => f_Buf_forgetWhatNoMarkKeeps_b36 h2) else (f_Buf_forgetWhatNoMarkKeeps_b36 h0)
def f_Buf_forgetWhatNoMarkKeeps (t0 : Nat) (h0 : Hs_t) : Rs_t := (fd_I [3] 4 h0 t0).bind fun v1 => (fd_I [3] 3 h0 t0).bind fun v2 => (fd_I [3] 7 h0 t0).bind fun v3 => if (v1 - v2) ≤ v3 then (f_Buf_forgetWhatNoMarkKeeps_b21 t0 h0) else ((pt_Z [3] 6 h0 t0 0).bind fun h1 => f_Buf_forgetWhatNoMarkKeeps_b21 t0 h1)
set_option maxRecDepth 100000 in
set_option maxHeartbeats 4000000 in
theorem k_Buf_forgetWhatNoMarkKeeps_b36 {p : Program} {l : Launch} {e : Env} {s : State} {m : MethodId} {args : Array Value} {below : List Frame} {meth : Method} {c : Code} {s0 : State} {A0 : Array Value} {G : Gx_t} {r : Outcome × Hs_t} {rm : Room} (hc : Cx_t p s m meth c s0 A0 l G y_Buf_forgetWhatNoMarkKeeps b_Buf_forgetWhatNoMarkKeeps 1 none []) (hrm : rm_Ok 0 0 0 0 rm) : ∀  (h0 : Hs_t) (H : Heap) (locs : List Loc) (ls : Array Slot), Rp_h G s0.heap h0 H → Lo_k s0 locs → lv_has ls 1 [] → f_Buf_forgetWhatNoMarkKeeps_b36  h0 = some r → W p l e rm s m args below meth c H locs 0 0 (xq_MQ G s0 below r s rm.cells rm.slots) (F0 m 36 ls []) := by
  have hx := hc.x
  have hb := hc.b
  obtain ⟨hm1, hm2, hm3, hm4⟩ := id hrm
  intro  h0 H locs ls hR hLo hl heq
  unfold f_Buf_forgetWhatNoMarkKeeps_b36 at heq
  exact x_vret hc hR hLo ⟨by omega, by omega⟩ heq d_Buf_forgetWhatNoMarkKeeps_36
set_option maxRecDepth 100000 in
set_option maxHeartbeats 4000000 in
theorem k_Buf_forgetWhatNoMarkKeeps_b21 {p : Program} {l : Launch} {e : Env} {s : State} {m : MethodId} {args : Array Value} {below : List Frame} {meth : Method} {c : Code} {s0 : State} {A0 : Array Value} {G : Gx_t} {r : Outcome × Hs_t} {rm : Room} (hc : Cx_t p s m meth c s0 A0 l G y_Buf_forgetWhatNoMarkKeeps b_Buf_forgetWhatNoMarkKeeps 1 none []) (hrm : rm_Ok 0 0 0 0 rm) : ∀ (t0 : Nat) (h0 : Hs_t) (H : Heap) (locs : List Loc) (ls : Array Slot), Rp_h G s0.heap h0 H → Lo_k s0 locs → lv_has ls 1 [(0, .ref t0)] → f_Buf_forgetWhatNoMarkKeeps_b21 t0 h0 = some r → W p l e rm s m args below meth c H locs 0 0 (xq_MQ G s0 below r s rm.cells rm.slots) (F0 m 21 ls []) := by
  have hx := hc.x
  have hb := hc.b
  obtain ⟨hm1, hm2, hm3, hm4⟩ := id hrm
  intro t0 h0 H locs ls hR hLo hl heq
  unfold f_Buf_forgetWhatNoMarkKeeps_b21 at heq
  refine lv_aload_n hx hb d_Buf_forgetWhatNoMarkKeeps_21 rfl (lv_at hl 0 rfl) ?_
  refine x_gI hc hR fl_Buf_29 heq d_Buf_forgetWhatNoMarkKeeps_22 (fun v4 heq => ?_)
  refine lv_if_ne (tgt := 36) hx hb d_Buf_forgetWhatNoMarkKeeps_25 rfl (fun hq => ?_) (fun hq => ?_)
  · rw [if_neg hq] at heq
    refine W.widen (k := 0) (n := 0) (by omega) (by omega) ?_
    exact k_Buf_forgetWhatNoMarkKeeps_b36 hc hrm h0 H locs ls hR hLo (lv_sub hl [] rfl) heq
  · rw [if_pos hq] at heq
    refine lv_aload_n hx hb d_Buf_forgetWhatNoMarkKeeps_28 rfl (lv_at hl 0 rfl) ?_
    refine lv_aload_n hx hb d_Buf_forgetWhatNoMarkKeeps_29 rfl (lv_at hl 0 rfl) ?_
    refine x_gI hc hR fl_Buf_23 heq d_Buf_forgetWhatNoMarkKeeps_30 (fun v5 heq => ?_)
    refine x_pV hc hR hLo fl_Buf_56 (Or.inl rfl) rfl rfl heq d_Buf_forgetWhatNoMarkKeeps_33 (fun h2 H locs hR hLo heq => ?_)
    refine W.widen (k := 0) (n := 0) (by omega) (by omega) ?_
    exact k_Buf_forgetWhatNoMarkKeeps_b36 hc hrm h2 H locs ls hR hLo (lv_sub hl [] rfl) heq
set_option maxRecDepth 100000 in
set_option maxHeartbeats 4000000 in
theorem c_Buf_forgetWhatNoMarkKeeps {l : Launch} {s0 : State} {A0 : Array Value} {G : Gx_t} (hG : G_0 l s0 A0 G) (rm : Room) (hrm : rm_Ok 0 0 0 0 rm) (t0 : Nat) (h0 : Hs_t) (r : Outcome × Hs_t) (heq : f_Buf_forgetWhatNoMarkKeeps t0 h0 = some r) : M_X G s0 l y_Buf_forgetWhatNoMarkKeeps (.code y_Buf_forgetWhatNoMarkKeeps b_Buf_forgetWhatNoMarkKeeps 1 none) rm [.ref t0] h0 r := by
  refine M_X.of (by decide) hG (fun p e s m below meth c H hc hR => ?_)
  have hx := hc.x
  have hb := hc.b
  obtain ⟨hm1, hm2, hm3, hm4⟩ := id hrm
  have hLo : Lo_k s0 [] := fun _ hq => absurd hq List.not_mem_nil
  have hl := lv_entry ([.ref t0]) (n := 1) (Nat.le_of_ble_eq_true rfl)
  rw [lg_entry_eq]
  generalize (lg_sl ([.ref t0]) ++ List.replicate (1 - (lg_sl ([.ref t0])).length) Slot.unset).toArray = ls at hl ⊢
  have hl : lv_has ls 1 [(0, .ref t0)] := hl
  generalize hle : ([] : List Loc) = locs at hLo ⊢
  unfold f_Buf_forgetWhatNoMarkKeeps at heq
  refine lv_aload_n hx hb d_Buf_forgetWhatNoMarkKeeps_0 rfl (lv_at hl 0 rfl) ?_
  refine x_gI hc hR fl_Buf_23 heq d_Buf_forgetWhatNoMarkKeeps_1 (fun v1 heq => ?_)
  refine lv_aload_n hx hb d_Buf_forgetWhatNoMarkKeeps_4 rfl (lv_at hl 0 rfl) ?_
  refine x_gI hc hR fl_Buf_56 heq d_Buf_forgetWhatNoMarkKeeps_5 (fun v2 heq => ?_)
  refine lv_isub hx hb d_Buf_forgetWhatNoMarkKeeps_8 ?_
  refine lv_aload_n hx hb d_Buf_forgetWhatNoMarkKeeps_9 rfl (lv_at hl 0 rfl) ?_
  refine x_gI hc hR fl_Buf_59 heq d_Buf_forgetWhatNoMarkKeeps_10 (fun v3 heq => ?_)
  refine lv_icmp_le (tgt := 21) hx hb d_Buf_forgetWhatNoMarkKeeps_13 rfl (fun hq => ?_) (fun hq => ?_)
  · rw [if_pos hq] at heq
    refine W.widen (k := 0) (n := 0) (by omega) (by omega) ?_
    exact k_Buf_forgetWhatNoMarkKeeps_b21 hc hrm t0 h0 H locs ls hR hLo (lv_sub hl [0] rfl) heq
  · rw [if_neg hq] at heq
    refine lv_aload_n hx hb d_Buf_forgetWhatNoMarkKeeps_16 rfl (lv_at hl 0 rfl) ?_
    refine lv_iconst (v := 0) hx hb d_Buf_forgetWhatNoMarkKeeps_17 (by decide) ?_
    refine x_pZ hc hR hLo fl_Buf_29 (Or.inl rfl) heq d_Buf_forgetWhatNoMarkKeeps_18 (fun h1 H locs hR hLo heq => ?_)
    refine W.widen (k := 0) (n := 0) (by omega) (by omega) ?_
    exact k_Buf_forgetWhatNoMarkKeeps_b21 hc hrm t0 h1 H locs ls hR hLo (lv_sub hl [0] rfl) heq
def rm_Buf_forgetWhatNoMarkKeeps : Room := { frames := 0, cells := 0, slots := 0, locals := 0 }
theorem rk_Buf_forgetWhatNoMarkKeeps : rm_Ok 0 0 0 0 rm_Buf_forgetWhatNoMarkKeeps := ⟨Nat.le_refl _, Nat.le_refl _, Nat.le_refl _, Nat.le_refl _⟩
def f_Buf_answer_b57 (w_answer : Nat → Int32 → Nat → Int32 → Hs_t → Rs_t) (t0 : Nat) (x1 : Int32) (x2 : Nat) (x3 : Int32) (h0 : Hs_t) : Rs_t := (fd_I [3] 5 h0 t0).bind fun v8 => (fd_I [3] 4 h0 t0).bind fun v9 => (fd_A [3] 2 h0 t0).bind fun v10 => (fd_I [3] 4 h0 t0).bind fun v11 => (cp_I h0 v10 v11 x2 x3 (if (v8 - v9) < x1 then (v8 - v9) else x1)).bind fun h3 => (fd_I [3] 4 h3 t0).bind fun v12 => (pt_V [3] 4 h3 t0 (.int (v12 + (if (v8 - v9) < x1 then (v8 - v9) else x1)))).bind fun h4 => (ck_T [3] h4 t0).bind fun _ => bd_V (f_Buf_forgetWhatNoMarkKeeps t0 h4) (fun h5 => re_I (if (v8 - v9) < x1 then (v8 - v9) else x1) h5)
def f_Buf_answer_b54 (w_answer : Nat → Int32 → Nat → Int32 → Hs_t → Rs_t) (x4 : Int32) (h0 : Hs_t) : Rs_t := re_I x4 h0
def f_Buf_answer_b37 (w_answer : Nat → Int32 → Nat → Int32 → Hs_t → Rs_t) (t0 : Nat) (x1 : Int32) (x2 : Nat) (x3 : Int32) (h0 : Hs_t) : Rs_t := (ck_T [3] h0 t0).bind fun _ => bd_I (f_Buf_fill w_answer t0 h0) (fun v7 h2 => if v7 = (-1) then (f_Buf_answer_b54 w_answer v7 h2) else (if v7 = 0 then (f_Buf_answer_b54 w_answer v7 h2) else (f_Buf_answer_b57 w_answer t0 x1 x2 x3 h2)))
def f_Buf_answer (w_answer : Nat → Int32 → Nat → Int32 → Hs_t → Rs_t) (t0 : Nat) (x1 : Int32) (x2 : Nat) (x3 : Int32) (h0 : Hs_t) : Rs_t := (fd_I [3] 4 h0 t0).bind fun v1 => (fd_I [3] 5 h0 t0).bind fun v2 => if v1 = v2 then ((fd_I [3] 1 h0 t0).bind fun v3 => if x1 < v3 then (f_Buf_answer_b37 w_answer t0 x1 x2 x3 h0) else ((fd_I [3] 6 h0 t0).bind fun v4 => if v4 = 0 then ((fd_A [3] 0 h0 t0).bind fun v5 => bd_I (w_answer v5 x1 x2 x3 h0) (fun v6 h1 => re_I v6 h1)) else (f_Buf_answer_b37 w_answer t0 x1 x2 x3 h0))) else (f_Buf_answer_b57 w_answer t0 x1 x2 x3 h0)
set_option maxRecDepth 100000 in
set_option maxHeartbeats 4000000 in
theorem k_Buf_answer_b57 {p : Program} {l : Launch} {e : Env} {s : State} {m : MethodId} {args : Array Value} {below : List Frame} {meth : Method} {c : Code} {s0 : State} {A0 : Array Value} {G : Gx_t} {r : Outcome × Hs_t} {rm : Room} (FW LW : Nat) (w_answer : Nat → Int32 → Nat → Int32 → Hs_t → Rs_t) (hc : Cx_t p s m meth c s0 A0 l G y_Buf_answer b_Buf_answer 5 (some .int) []) (hrm : rm_Ok 0 0 (FW + 2) (LW + 61) rm) (hw_answer : ∀ (a : Nat) (x1 : Int32) (x2 : Nat) (x3 : Int32) (h : Hs_t) (r0 : Outcome × Hs_t), w_answer a x1 x2 x3 h = some r0 → V_X G s0 l xn_answer { frames := FW, cells := 0, slots := 0, locals := LW } a [.int x1, .ref x2, .int x3] h r0) : ∀ (t0 : Nat) (x1 : Int32) (x2 : Nat) (x3 : Int32) (h0 : Hs_t) (H : Heap) (locs : List Loc) (ls : Array Slot), Rp_h G s0.heap h0 H → Lo_k s0 locs → lv_has ls 5 [(0, .ref t0), (1, .int x1), (2, .ref x2), (3, .int x3)] → f_Buf_answer_b57 w_answer t0 x1 x2 x3 h0 = some r → W p l e rm s m args below meth c H locs 0 0 (xq_MQ G s0 below r s rm.cells rm.slots) (F0 m 57 ls []) := by
  have hx := hc.x
  have hb := hc.b
  obtain ⟨hm1, hm2, hm3, hm4⟩ := id hrm
  intro t0 x1 x2 x3 h0 H locs ls hR hLo hl heq
  unfold f_Buf_answer_b57 at heq
  refine lv_iload_n hx hb d_Buf_answer_57 rfl (lv_at hl 1 rfl) ?_
  refine lv_aload_n hx hb d_Buf_answer_58 rfl (lv_at hl 0 rfl) ?_
  refine x_gI hc hR fl_Buf_26 heq d_Buf_answer_59 (fun v8 heq => ?_)
  refine lv_aload_n hx hb d_Buf_answer_62 rfl (lv_at hl 0 rfl) ?_
  refine x_gI hc hR fl_Buf_23 heq d_Buf_answer_63 (fun v9 heq => ?_)
  refine lv_isub hx hb d_Buf_answer_66 ?_
  refine x_min hc hl.1 wd_479 wd_147 wd_17 wd_148 (by omega) (by show 0 + 13 ≤ _; omega) ⟨by omega, by omega⟩ d_Buf_answer_67 ?_
  refine lv_istore (lv' := [(4, .int (if (v8 - v9) < x1 then (v8 - v9) else x1)), (0, .ref t0), (1, .int x1), (2, .ref x2), (3, .int x3)]) hx hb d_Buf_answer_70 hl (by decide) rfl (fun ls hl => ?_)
  refine lv_aload_n hx hb d_Buf_answer_72 rfl (lv_at hl 1 rfl) ?_
  refine x_gA hc hR fl_Buf_19 heq d_Buf_answer_73 (fun v10 heq => ?_)
  refine lv_aload_n hx hb d_Buf_answer_76 rfl (lv_at hl 1 rfl) ?_
  refine x_gI hc hR fl_Buf_23 heq d_Buf_answer_77 (fun v11 heq => ?_)
  refine lv_aload_n hx hb d_Buf_answer_80 rfl (lv_at hl 3 rfl) ?_
  refine lv_iload_n hx hb d_Buf_answer_81 rfl (lv_at hl 4 rfl) ?_
  refine lv_iload hx hb d_Buf_answer_82 (lv_at hl 0 rfl) ?_
  refine x_cpI hc hR hLo hl.1 wd_478 wd_468 wd_467 wd_18 (by omega) (by show 0 + (nativeFrameWords "java/lang/System" "arraycopy" 5 + 11) ≤ _; have := cp_w; omega) heq d_Buf_answer_84 (fun h3 H locs hR hLo heq => ?_)
  refine lv_aload_n hx hb d_Buf_answer_87 rfl (lv_at hl 1 rfl) ?_
  refine lv_dup hx hb d_Buf_answer_88 rfl ?_
  refine x_gI hc hR fl_Buf_23 heq d_Buf_answer_89 (fun v12 heq => ?_)
  refine lv_iload hx hb d_Buf_answer_92 (lv_at hl 0 rfl) ?_
  refine lv_iadd hx hb d_Buf_answer_94 ?_
  refine x_pV hc hR hLo fl_Buf_23 (Or.inl rfl) rfl rfl heq d_Buf_answer_95 (fun h4 H locs hR hLo heq => ?_)
  refine lv_aload_n hx hb d_Buf_answer_98 rfl (lv_at hl 1 rfl) ?_
  refine x_ck heq (fun tt fs ha ht heq => ?_)
  obtain rfl : tt = 3 := by simpa using ht
  refine x_bV (mc := 0) (ms := 0) (st := []) hc hLo heq ⟨by omega, by omega⟩ (fun r9 h9 => x_runV hc (c_Buf_forgetWhatNoMarkKeeps hc.g rm_Buf_forgetWhatNoMarkKeeps rk_Buf_forgetWhatNoMarkKeeps _ _ _ h9) md_Buf_forgetWhatNoMarkKeeps hR ha rfl wd_480 wd_482 sp_7 hl.1 ml_Buf_forgetWhatNoMarkKeeps rfl (Nat.le_of_ble_eq_true rfl) d_Buf_answer_99 ⟨by show 0 + 1 ≤ _; omega, by show 8 + (1 + 11) + (0) ≤ _; omega⟩ ⟨by show 0 + 0 ≤ _; omega, by show 0 + 0 ≤ _; omega⟩) (fun h5 H locs hR hLo heq => ?_)
  refine lv_iload hx hb d_Buf_answer_102 (lv_at hl 0 rfl) ?_
  exact x_iret hc hR hLo ⟨by omega, by omega⟩ heq d_Buf_answer_104
set_option maxRecDepth 100000 in
set_option maxHeartbeats 4000000 in
theorem k_Buf_answer_b54 {p : Program} {l : Launch} {e : Env} {s : State} {m : MethodId} {args : Array Value} {below : List Frame} {meth : Method} {c : Code} {s0 : State} {A0 : Array Value} {G : Gx_t} {r : Outcome × Hs_t} {rm : Room} (FW LW : Nat) (w_answer : Nat → Int32 → Nat → Int32 → Hs_t → Rs_t) (hc : Cx_t p s m meth c s0 A0 l G y_Buf_answer b_Buf_answer 5 (some .int) []) (hrm : rm_Ok 0 0 (FW + 2) (LW + 61) rm) (hw_answer : ∀ (a : Nat) (x1 : Int32) (x2 : Nat) (x3 : Int32) (h : Hs_t) (r0 : Outcome × Hs_t), w_answer a x1 x2 x3 h = some r0 → V_X G s0 l xn_answer { frames := FW, cells := 0, slots := 0, locals := LW } a [.int x1, .ref x2, .int x3] h r0) : ∀ (x4 : Int32) (h0 : Hs_t) (H : Heap) (locs : List Loc) (ls : Array Slot), Rp_h G s0.heap h0 H → Lo_k s0 locs → lv_has ls 5 [(4, .int x4)] → f_Buf_answer_b54 w_answer x4 h0 = some r → W p l e rm s m args below meth c H locs 0 0 (xq_MQ G s0 below r s rm.cells rm.slots) (F0 m 54 ls []) := by
  have hx := hc.x
  have hb := hc.b
  obtain ⟨hm1, hm2, hm3, hm4⟩ := id hrm
  intro x4 h0 H locs ls hR hLo hl heq
  unfold f_Buf_answer_b54 at heq
  refine lv_iload hx hb d_Buf_answer_54 (lv_at hl 0 rfl) ?_
  exact x_iret hc hR hLo ⟨by omega, by omega⟩ heq d_Buf_answer_56
set_option maxRecDepth 100000 in
set_option maxHeartbeats 4000000 in
theorem k_Buf_answer_b37 {p : Program} {l : Launch} {e : Env} {s : State} {m : MethodId} {args : Array Value} {below : List Frame} {meth : Method} {c : Code} {s0 : State} {A0 : Array Value} {G : Gx_t} {r : Outcome × Hs_t} {rm : Room} (FW LW : Nat) (w_answer : Nat → Int32 → Nat → Int32 → Hs_t → Rs_t) (hc : Cx_t p s m meth c s0 A0 l G y_Buf_answer b_Buf_answer 5 (some .int) []) (hrm : rm_Ok 0 0 (FW + 2) (LW + 61) rm) (hw_answer : ∀ (a : Nat) (x1 : Int32) (x2 : Nat) (x3 : Int32) (h : Hs_t) (r0 : Outcome × Hs_t), w_answer a x1 x2 x3 h = some r0 → V_X G s0 l xn_answer { frames := FW, cells := 0, slots := 0, locals := LW } a [.int x1, .ref x2, .int x3] h r0) : ∀ (t0 : Nat) (x1 : Int32) (x2 : Nat) (x3 : Int32) (h0 : Hs_t) (H : Heap) (locs : List Loc) (ls : Array Slot), Rp_h G s0.heap h0 H → Lo_k s0 locs → lv_has ls 5 [(0, .ref t0), (1, .int x1), (2, .ref x2), (3, .int x3)] → f_Buf_answer_b37 w_answer t0 x1 x2 x3 h0 = some r → W p l e rm s m args below meth c H locs 0 0 (xq_MQ G s0 below r s rm.cells rm.slots) (F0 m 37 ls []) := by
  have hx := hc.x
  have hb := hc.b
  obtain ⟨hm1, hm2, hm3, hm4⟩ := id hrm
  intro t0 x1 x2 x3 h0 H locs ls hR hLo hl heq
  unfold f_Buf_answer_b37 at heq
  refine lv_aload_n hx hb d_Buf_answer_37 rfl (lv_at hl 0 rfl) ?_
  refine x_ck heq (fun tt fs ha ht heq => ?_)
  obtain rfl : tt = 3 := by simpa using ht
  refine x_bI (mc := 0) (ms := 0) (st := []) hc hLo heq ⟨by omega, by omega⟩ (fun r9 h9 => x_runV hc (c_Buf_fill hc.g FW LW w_answer { frames := FW + 1, cells := 0, slots := 0, locals := LW + 40 } ⟨Nat.le_refl _, Nat.le_refl _, Nat.le_refl _, Nat.le_refl _⟩ hw_answer _ _ _ h9) md_Buf_fill hR ha rfl wd_474 wd_476 sp_6 hl.1 ml_Buf_fill rfl (Nat.le_of_ble_eq_true rfl) d_Buf_answer_38 ⟨by show FW + 1 + 1 ≤ _; omega, by show 8 + (2 + 11) + (LW + 40) ≤ _; omega⟩ ⟨by show 0 + 0 ≤ _; omega, by show 0 + 0 ≤ _; omega⟩) (fun v7 h2 H locs hR hLo heq => ?_)
  refine lv_istore (lv' := [(4, .int v7), (0, .ref t0), (1, .int x1), (2, .ref x2), (3, .int x3)]) hx hb d_Buf_answer_41 hl (by decide) rfl (fun ls hl => ?_)
  refine lv_iload hx hb d_Buf_answer_43 (lv_at hl 0 rfl) ?_
  refine lv_iconst (v := (-1)) hx hb d_Buf_answer_45 (by decide) ?_
  refine lv_icmp_eq (tgt := 54) hx hb d_Buf_answer_46 rfl (fun hq => ?_) (fun hq => ?_)
  · rw [if_pos hq] at heq
    refine W.widen (k := 0) (n := 0) (by omega) (by omega) ?_
    exact k_Buf_answer_b54 FW LW w_answer hc hrm hw_answer v7 h2 H locs ls hR hLo (lv_sub hl [0] rfl) heq
  · rw [if_neg hq] at heq
    refine lv_iload hx hb d_Buf_answer_49 (lv_at hl 0 rfl) ?_
    refine lv_if_ne (tgt := 57) hx hb d_Buf_answer_51 rfl (fun hq => ?_) (fun hq => ?_)
    · rw [if_neg hq] at heq
      refine W.widen (k := 0) (n := 0) (by omega) (by omega) ?_
      exact k_Buf_answer_b57 FW LW w_answer hc hrm hw_answer t0 x1 x2 x3 h2 H locs ls hR hLo (lv_sub hl [1, 2, 3, 4] rfl) heq
    · rw [if_pos hq] at heq
      refine W.widen (k := 0) (n := 0) (by omega) (by omega) ?_
      exact k_Buf_answer_b54 FW LW w_answer hc hrm hw_answer v7 h2 H locs ls hR hLo (lv_sub hl [0] rfl) heq
set_option maxRecDepth 100000 in
set_option maxHeartbeats 4000000 in
theorem c_Buf_answer {l : Launch} {s0 : State} {A0 : Array Value} {G : Gx_t} (hG : G_0 l s0 A0 G) (FW LW : Nat) (w_answer : Nat → Int32 → Nat → Int32 → Hs_t → Rs_t) (rm : Room) (hrm : rm_Ok 0 0 (FW + 2) (LW + 61) rm) (hw_answer : ∀ (a : Nat) (x1 : Int32) (x2 : Nat) (x3 : Int32) (h : Hs_t) (r0 : Outcome × Hs_t), w_answer a x1 x2 x3 h = some r0 → V_X G s0 l xn_answer { frames := FW, cells := 0, slots := 0, locals := LW } a [.int x1, .ref x2, .int x3] h r0) (t0 : Nat) (x1 : Int32) (x2 : Nat) (x3 : Int32) (h0 : Hs_t) (r : Outcome × Hs_t) (heq : f_Buf_answer w_answer t0 x1 x2 x3 h0 = some r) : M_X G s0 l y_Buf_answer (.code y_Buf_answer b_Buf_answer 5 (some .int)) rm [.ref t0, .int x1, .ref x2, .int x3] h0 r := by
  refine M_X.of (by decide) hG (fun p e s m below meth c H hc hR => ?_)
  have hx := hc.x
  have hb := hc.b
  obtain ⟨hm1, hm2, hm3, hm4⟩ := id hrm
  have hLo : Lo_k s0 [] := fun _ hq => absurd hq List.not_mem_nil
  have hl := lv_entry ([.ref t0, .int x1, .ref x2, .int x3]) (n := 5) (Nat.le_of_ble_eq_true rfl)
  rw [lg_entry_eq]
  generalize (lg_sl ([.ref t0, .int x1, .ref x2, .int x3]) ++ List.replicate (5 - (lg_sl ([.ref t0, .int x1, .ref x2, .int x3])).length) Slot.unset).toArray = ls at hl ⊢
  have hl : lv_has ls 5 [(0, .ref t0), (1, .int x1), (2, .ref x2), (3, .int x3)] := hl
  generalize hle : ([] : List Loc) = locs at hLo ⊢
  unfold f_Buf_answer at heq
  refine lv_aload_n hx hb d_Buf_answer_0 rfl (lv_at hl 0 rfl) ?_
  refine x_gI hc hR fl_Buf_23 heq d_Buf_answer_1 (fun v1 heq => ?_)
  refine lv_aload_n hx hb d_Buf_answer_4 rfl (lv_at hl 0 rfl) ?_
  refine x_gI hc hR fl_Buf_26 heq d_Buf_answer_5 (fun v2 heq => ?_)
  refine lv_icmp_ne (tgt := 57) hx hb d_Buf_answer_8 rfl (fun hq => ?_) (fun hq => ?_)
  · rw [if_neg hq] at heq
    refine W.widen (k := 0) (n := 0) (by omega) (by omega) ?_
    exact k_Buf_answer_b57 FW LW w_answer hc hrm hw_answer t0 x1 x2 x3 h0 H locs ls hR hLo (lv_sub hl [0, 1, 2, 3] rfl) heq
  · rw [if_pos hq] at heq
    refine lv_iload_n hx hb d_Buf_answer_11 rfl (lv_at hl 1 rfl) ?_
    refine lv_aload_n hx hb d_Buf_answer_12 rfl (lv_at hl 0 rfl) ?_
    refine x_gI hc hR fl_Buf_15 heq d_Buf_answer_13 (fun v3 heq => ?_)
    refine lv_icmp_lt (tgt := 37) hx hb d_Buf_answer_16 rfl (fun hq => ?_) (fun hq => ?_)
    · rw [if_pos hq] at heq
      refine W.widen (k := 0) (n := 0) (by omega) (by omega) ?_
      exact k_Buf_answer_b37 FW LW w_answer hc hrm hw_answer t0 x1 x2 x3 h0 H locs ls hR hLo (lv_sub hl [0, 1, 2, 3] rfl) heq
    · rw [if_neg hq] at heq
      refine lv_aload_n hx hb d_Buf_answer_19 rfl (lv_at hl 0 rfl) ?_
      refine x_gI hc hR fl_Buf_29 heq d_Buf_answer_20 (fun v4 heq => ?_)
      refine lv_if_ne (tgt := 37) hx hb d_Buf_answer_23 rfl (fun hq => ?_) (fun hq => ?_)
      · rw [if_neg hq] at heq
        refine W.widen (k := 0) (n := 0) (by omega) (by omega) ?_
        exact k_Buf_answer_b37 FW LW w_answer hc hrm hw_answer t0 x1 x2 x3 h0 H locs ls hR hLo (lv_sub hl [0, 1, 2, 3] rfl) heq
      · rw [if_pos hq] at heq
        refine lv_aload_n hx hb d_Buf_answer_26 rfl (lv_at hl 0 rfl) ?_
        refine x_gA hc hR fl_Buf_9 heq d_Buf_answer_27 (fun v5 heq => ?_)
        refine lv_iload_n hx hb d_Buf_answer_30 rfl (lv_at hl 1 rfl) ?_
        refine lv_aload_n hx hb d_Buf_answer_31 rfl (lv_at hl 2 rfl) ?_
        refine lv_iload_n hx hb d_Buf_answer_32 rfl (lv_at hl 3 rfl) ?_
        refine x_bI (mc := 0) (ms := 0) (st := []) hc hLo heq ⟨by omega, by omega⟩ (fun r9 h9 => x_runW hc (hw_answer _ _ _ _ _ _ h9) hR wd_449 wd_445 (Or.inl wd_444) (by decide) hl.1 xl_answer rfl (Nat.le_of_ble_eq_true rfl) d_Buf_answer_33 ⟨by show FW + 0 + 1 ≤ _; omega, by show 8 + (10 + 11) + (LW + 0) ≤ _; omega⟩ ⟨by show 0 + 0 ≤ _; omega, by show 0 + 0 ≤ _; omega⟩) (fun v6 h1 H locs hR hLo heq => ?_)
        exact x_iret hc hR hLo ⟨by omega, by omega⟩ heq d_Buf_answer_36
def f_Buf_ready (w_ready : Nat → Hs_t → Rs_t) (t0 : Nat) (h0 : Hs_t) : Rs_t := (fd_I [3] 5 h0 t0).bind fun v1 => (fd_I [3] 4 h0 t0).bind fun v2 => (fd_A [3] 0 h0 t0).bind fun v3 => bd_I (w_ready v3 h0) (fun v4 h1 => re_I ((v1 - v2) + v4) h1)
set_option maxRecDepth 100000 in
set_option maxHeartbeats 4000000 in
theorem c_Buf_ready {l : Launch} {s0 : State} {A0 : Array Value} {G : Gx_t} (hG : G_0 l s0 A0 G) (FW LW : Nat) (w_ready : Nat → Hs_t → Rs_t) (rm : Room) (hrm : rm_Ok 0 0 (FW + 1) (LW + 29) rm) (hw_ready : ∀ (a : Nat) (h : Hs_t) (r0 : Outcome × Hs_t), w_ready a h = some r0 → V_X G s0 l xn_ready { frames := FW, cells := 0, slots := 0, locals := LW } a [] h r0) (t0 : Nat) (h0 : Hs_t) (r : Outcome × Hs_t) (heq : f_Buf_ready w_ready t0 h0 = some r) : M_X G s0 l y_Buf_ready (.code y_Buf_ready b_Buf_ready 1 (some .int)) rm [.ref t0] h0 r := by
  refine M_X.of (by decide) hG (fun p e s m below meth c H hc hR => ?_)
  have hx := hc.x
  have hb := hc.b
  obtain ⟨hm1, hm2, hm3, hm4⟩ := id hrm
  have hLo : Lo_k s0 [] := fun _ hq => absurd hq List.not_mem_nil
  have hl := lv_entry ([.ref t0]) (n := 1) (Nat.le_of_ble_eq_true rfl)
  rw [lg_entry_eq]
  generalize (lg_sl ([.ref t0]) ++ List.replicate (1 - (lg_sl ([.ref t0])).length) Slot.unset).toArray = ls at hl ⊢
  have hl : lv_has ls 1 [(0, .ref t0)] := hl
  generalize hle : ([] : List Loc) = locs at hLo ⊢
  unfold f_Buf_ready at heq
  refine lv_aload_n hx hb d_Buf_ready_0 rfl (lv_at hl 0 rfl) ?_
  refine x_gI hc hR fl_Buf_26 heq d_Buf_ready_1 (fun v1 heq => ?_)
  refine lv_aload_n hx hb d_Buf_ready_4 rfl (lv_at hl 0 rfl) ?_
  refine x_gI hc hR fl_Buf_23 heq d_Buf_ready_5 (fun v2 heq => ?_)
  refine lv_isub hx hb d_Buf_ready_8 ?_
  refine lv_aload_n hx hb d_Buf_ready_9 rfl (lv_at hl 0 rfl) ?_
  refine x_gA hc hR fl_Buf_9 heq d_Buf_ready_10 (fun v3 heq => ?_)
  refine x_bI (mc := 0) (ms := 0) (st := [.int (v1 - v2)]) hc hLo heq ⟨by omega, by omega⟩ (fun r9 h9 => x_runW hc (hw_ready _ _ _ h9) hR wd_134 wd_130 (Or.inl wd_129) (by decide) hl.1 xl_ready rfl (Nat.le_of_ble_eq_true rfl) d_Buf_ready_13 ⟨by show FW + 0 + 1 ≤ _; omega, by show 8 + (10 + 11) + (LW + 0) ≤ _; omega⟩ ⟨by show 0 + 0 ≤ _; omega, by show 0 + 0 ≤ _; omega⟩) (fun v4 h1 H locs hR hLo heq => ?_)
  refine lv_iadd hx hb d_Buf_ready_16 ?_
  exact x_iret hc hR hLo ⟨by omega, by omega⟩ heq d_Buf_ready_17
def f_Buf_state (t0 : Nat) (h0 : Hs_t) : Rs_t := (fd_I [3] 5 h0 t0).bind fun v1 => (fd_I [3] 4 h0 t0).bind fun v2 => re_I (v1 - v2) h0
set_option maxRecDepth 100000 in
set_option maxHeartbeats 4000000 in
theorem c_Buf_state {l : Launch} {s0 : State} {A0 : Array Value} {G : Gx_t} (hG : G_0 l s0 A0 G) (rm : Room) (hrm : rm_Ok 0 0 0 0 rm) (t0 : Nat) (h0 : Hs_t) (r : Outcome × Hs_t) (heq : f_Buf_state t0 h0 = some r) : M_X G s0 l y_Buf_state (.code y_Buf_state b_Buf_state 1 (some .int)) rm [.ref t0] h0 r := by
  refine M_X.of (by decide) hG (fun p e s m below meth c H hc hR => ?_)
  have hx := hc.x
  have hb := hc.b
  obtain ⟨hm1, hm2, hm3, hm4⟩ := id hrm
  have hLo : Lo_k s0 [] := fun _ hq => absurd hq List.not_mem_nil
  have hl := lv_entry ([.ref t0]) (n := 1) (Nat.le_of_ble_eq_true rfl)
  rw [lg_entry_eq]
  generalize (lg_sl ([.ref t0]) ++ List.replicate (1 - (lg_sl ([.ref t0])).length) Slot.unset).toArray = ls at hl ⊢
  have hl : lv_has ls 1 [(0, .ref t0)] := hl
  generalize hle : ([] : List Loc) = locs at hLo ⊢
  unfold f_Buf_state at heq
  refine lv_aload_n hx hb d_Buf_state_0 rfl (lv_at hl 0 rfl) ?_
  refine x_gI hc hR fl_Buf_26 heq d_Buf_state_1 (fun v1 heq => ?_)
  refine lv_aload_n hx hb d_Buf_state_4 rfl (lv_at hl 0 rfl) ?_
  refine x_gI hc hR fl_Buf_23 heq d_Buf_state_5 (fun v2 heq => ?_)
  refine lv_isub hx hb d_Buf_state_8 ?_
  exact x_iret hc hR hLo ⟨by omega, by omega⟩ heq d_Buf_state_9
def rm_Buf_state : Room := { frames := 0, cells := 0, slots := 0, locals := 0 }
theorem rk_Buf_state : rm_Ok 0 0 0 0 rm_Buf_state := ⟨Nat.le_refl _, Nat.le_refl _, Nat.le_refl _, Nat.le_refl _⟩
def f_Buf_canBeMarked (t0 : Nat) (h0 : Hs_t) : Rs_t := re_Z 1 h0
set_option maxRecDepth 100000 in
set_option maxHeartbeats 4000000 in
theorem c_Buf_canBeMarked {l : Launch} {s0 : State} {A0 : Array Value} {G : Gx_t} (hG : G_0 l s0 A0 G) (rm : Room) (hrm : rm_Ok 0 0 0 0 rm) (t0 : Nat) (h0 : Hs_t) (r : Outcome × Hs_t) (heq : f_Buf_canBeMarked t0 h0 = some r) : M_X G s0 l y_Buf_canBeMarked (.code y_Buf_canBeMarked b_Buf_canBeMarked 1 (some .boolean)) rm [.ref t0] h0 r := by
  refine M_X.of (by decide) hG (fun p e s m below meth c H hc hR => ?_)
  have hx := hc.x
  have hb := hc.b
  obtain ⟨hm1, hm2, hm3, hm4⟩ := id hrm
  have hLo : Lo_k s0 [] := fun _ hq => absurd hq List.not_mem_nil
  have hl := lv_entry ([.ref t0]) (n := 1) (Nat.le_of_ble_eq_true rfl)
  rw [lg_entry_eq]
  generalize (lg_sl ([.ref t0]) ++ List.replicate (1 - (lg_sl ([.ref t0])).length) Slot.unset).toArray = ls at hl ⊢
  have hl : lv_has ls 1 [(0, .ref t0)] := hl
  generalize hle : ([] : List Loc) = locs at hLo ⊢
  unfold f_Buf_canBeMarked at heq
  refine lv_iconst (v := 1) hx hb d_Buf_canBeMarked_0 (by decide) ?_
  exact x_zret hc hR hLo ⟨by omega, by omega⟩ heq d_Buf_canBeMarked_1
def rm_Buf_canBeMarked : Room := { frames := 0, cells := 0, slots := 0, locals := 0 }
theorem rk_Buf_canBeMarked : rm_Ok 0 0 0 0 rm_Buf_canBeMarked := ⟨Nat.le_refl _, Nat.le_refl _, Nat.le_refl _, Nat.le_refl _⟩
def f_Buf_hasMark (t0 : Nat) (h0 : Hs_t) : Rs_t := (fd_I [3] 6 h0 t0).bind fun v1 => re_Z v1 h0
set_option maxRecDepth 100000 in
set_option maxHeartbeats 4000000 in
theorem c_Buf_hasMark {l : Launch} {s0 : State} {A0 : Array Value} {G : Gx_t} (hG : G_0 l s0 A0 G) (rm : Room) (hrm : rm_Ok 0 0 0 0 rm) (t0 : Nat) (h0 : Hs_t) (r : Outcome × Hs_t) (heq : f_Buf_hasMark t0 h0 = some r) : M_X G s0 l y_Buf_hasMark (.code y_Buf_hasMark b_Buf_hasMark 1 (some .boolean)) rm [.ref t0] h0 r := by
  refine M_X.of (by decide) hG (fun p e s m below meth c H hc hR => ?_)
  have hx := hc.x
  have hb := hc.b
  obtain ⟨hm1, hm2, hm3, hm4⟩ := id hrm
  have hLo : Lo_k s0 [] := fun _ hq => absurd hq List.not_mem_nil
  have hl := lv_entry ([.ref t0]) (n := 1) (Nat.le_of_ble_eq_true rfl)
  rw [lg_entry_eq]
  generalize (lg_sl ([.ref t0]) ++ List.replicate (1 - (lg_sl ([.ref t0])).length) Slot.unset).toArray = ls at hl ⊢
  have hl : lv_has ls 1 [(0, .ref t0)] := hl
  generalize hle : ([] : List Loc) = locs at hLo ⊢
  unfold f_Buf_hasMark at heq
  refine lv_aload_n hx hb d_Buf_hasMark_0 rfl (lv_at hl 0 rfl) ?_
  refine x_gI hc hR fl_Buf_29 heq d_Buf_hasMark_1 (fun v1 heq => ?_)
  exact x_zret hc hR hLo ⟨by omega, by omega⟩ heq d_Buf_hasMark_4
def rm_Buf_hasMark : Room := { frames := 0, cells := 0, slots := 0, locals := 0 }
theorem rk_Buf_hasMark : rm_Ok 0 0 0 0 rm_Buf_hasMark := ⟨Nat.le_refl _, Nat.le_refl _, Nat.le_refl _, Nat.le_refl _⟩
def f_Buf_takeMark (t0 : Nat) (x1 : Int32) (h0 : Hs_t) : Rs_t := (pt_Z [3] 6 h0 t0 1).bind fun h1 => (pt_V [3] 7 h1 t0 (.int x1)).bind fun h2 => (fd_I [3] 4 h2 t0).bind fun v1 => (pt_V [3] 3 h2 t0 (.int v1)).bind fun h3 => re_V h3
set_option maxRecDepth 100000 in
set_option maxHeartbeats 4000000 in
theorem c_Buf_takeMark {l : Launch} {s0 : State} {A0 : Array Value} {G : Gx_t} (hG : G_0 l s0 A0 G) (rm : Room) (hrm : rm_Ok 0 0 0 0 rm) (t0 : Nat) (x1 : Int32) (h0 : Hs_t) (r : Outcome × Hs_t) (heq : f_Buf_takeMark t0 x1 h0 = some r) : M_X G s0 l y_Buf_takeMark (.code y_Buf_takeMark b_Buf_takeMark 2 none) rm [.ref t0, .int x1] h0 r := by
  refine M_X.of (by decide) hG (fun p e s m below meth c H hc hR => ?_)
  have hx := hc.x
  have hb := hc.b
  obtain ⟨hm1, hm2, hm3, hm4⟩ := id hrm
  have hLo : Lo_k s0 [] := fun _ hq => absurd hq List.not_mem_nil
  have hl := lv_entry ([.ref t0, .int x1]) (n := 2) (Nat.le_of_ble_eq_true rfl)
  rw [lg_entry_eq]
  generalize (lg_sl ([.ref t0, .int x1]) ++ List.replicate (2 - (lg_sl ([.ref t0, .int x1])).length) Slot.unset).toArray = ls at hl ⊢
  have hl : lv_has ls 2 [(0, .ref t0), (1, .int x1)] := hl
  generalize hle : ([] : List Loc) = locs at hLo ⊢
  unfold f_Buf_takeMark at heq
  refine lv_aload_n hx hb d_Buf_takeMark_0 rfl (lv_at hl 0 rfl) ?_
  refine lv_iconst (v := 1) hx hb d_Buf_takeMark_1 (by decide) ?_
  refine x_pZ hc hR hLo fl_Buf_29 (Or.inl rfl) heq d_Buf_takeMark_2 (fun h1 H locs hR hLo heq => ?_)
  refine lv_aload_n hx hb d_Buf_takeMark_5 rfl (lv_at hl 0 rfl) ?_
  refine lv_iload_n hx hb d_Buf_takeMark_6 rfl (lv_at hl 1 rfl) ?_
  refine x_pV hc hR hLo fl_Buf_59 (Or.inl rfl) rfl rfl heq d_Buf_takeMark_7 (fun h2 H locs hR hLo heq => ?_)
  refine lv_aload_n hx hb d_Buf_takeMark_10 rfl (lv_at hl 0 rfl) ?_
  refine lv_aload_n hx hb d_Buf_takeMark_11 rfl (lv_at hl 0 rfl) ?_
  refine x_gI hc hR fl_Buf_23 heq d_Buf_takeMark_12 (fun v1 heq => ?_)
  refine x_pV hc hR hLo fl_Buf_56 (Or.inl rfl) rfl rfl heq d_Buf_takeMark_15 (fun h3 H locs hR hLo heq => ?_)
  exact x_vret hc hR hLo ⟨by omega, by omega⟩ heq d_Buf_takeMark_18
def rm_Buf_takeMark : Room := { frames := 0, cells := 0, slots := 0, locals := 0 }
theorem rk_Buf_takeMark : rm_Ok 0 0 0 0 rm_Buf_takeMark := ⟨Nat.le_refl _, Nat.le_refl _, Nat.le_refl _, Nat.le_refl _⟩
def f_Buf_goBack (t0 : Nat) (h0 : Hs_t) : Rs_t := (fd_I [3] 3 h0 t0).bind fun v1 => (pt_V [3] 4 h0 t0 (.int v1)).bind fun h1 => re_V h1
set_option maxRecDepth 100000 in
set_option maxHeartbeats 4000000 in
theorem c_Buf_goBack {l : Launch} {s0 : State} {A0 : Array Value} {G : Gx_t} (hG : G_0 l s0 A0 G) (rm : Room) (hrm : rm_Ok 0 0 0 0 rm) (t0 : Nat) (h0 : Hs_t) (r : Outcome × Hs_t) (heq : f_Buf_goBack t0 h0 = some r) : M_X G s0 l y_Buf_goBack (.code y_Buf_goBack b_Buf_goBack 1 none) rm [.ref t0] h0 r := by
  refine M_X.of (by decide) hG (fun p e s m below meth c H hc hR => ?_)
  have hx := hc.x
  have hb := hc.b
  obtain ⟨hm1, hm2, hm3, hm4⟩ := id hrm
  have hLo : Lo_k s0 [] := fun _ hq => absurd hq List.not_mem_nil
  have hl := lv_entry ([.ref t0]) (n := 1) (Nat.le_of_ble_eq_true rfl)
  rw [lg_entry_eq]
  generalize (lg_sl ([.ref t0]) ++ List.replicate (1 - (lg_sl ([.ref t0])).length) Slot.unset).toArray = ls at hl ⊢
  have hl : lv_has ls 1 [(0, .ref t0)] := hl
  generalize hle : ([] : List Loc) = locs at hLo ⊢
  unfold f_Buf_goBack at heq
  refine lv_aload_n hx hb d_Buf_goBack_0 rfl (lv_at hl 0 rfl) ?_
  refine lv_aload_n hx hb d_Buf_goBack_1 rfl (lv_at hl 0 rfl) ?_
  refine x_gI hc hR fl_Buf_56 heq d_Buf_goBack_2 (fun v1 heq => ?_)
  refine x_pV hc hR hLo fl_Buf_23 (Or.inl rfl) rfl rfl heq d_Buf_goBack_5 (fun h1 H locs hR hLo heq => ?_)
  exact x_vret hc hR hLo ⟨by omega, by omega⟩ heq d_Buf_goBack_8
def rm_Buf_goBack : Room := { frames := 0, cells := 0, slots := 0, locals := 0 }
theorem rk_Buf_goBack : rm_Ok 0 0 0 0 rm_Buf_goBack := ⟨Nat.le_refl _, Nat.le_refl _, Nat.le_refl _, Nat.le_refl _⟩
def f_Pas_init (t0 : Nat) (x1 : Nat) (h0 : Hs_t) : Rs_t := bd_V (f_Str_init t0 h0) (fun h1 => (pt_V [5, 6, 7] 0 h1 t0 (.ref x1)).bind fun h2 => re_V h2)
set_option maxRecDepth 100000 in
set_option maxHeartbeats 4000000 in
theorem c_Pas_init {l : Launch} {s0 : State} {A0 : Array Value} {G : Gx_t} (hG : G_0 l s0 A0 G) (rm : Room) (hrm : rm_Ok 0 0 2 32 rm) (t0 : Nat) (x1 : Nat) (h0 : Hs_t) (r : Outcome × Hs_t) (heq : f_Pas_init t0 x1 h0 = some r) : M_X G s0 l y_Pas_init (.code y_Pas_init b_Pas_init 2 none) rm [.ref t0, .ref x1] h0 r := by
  refine M_X.of (by decide) hG (fun p e s m below meth c H hc hR => ?_)
  have hx := hc.x
  have hb := hc.b
  obtain ⟨hm1, hm2, hm3, hm4⟩ := id hrm
  have hLo : Lo_k s0 [] := fun _ hq => absurd hq List.not_mem_nil
  have hl := lv_entry ([.ref t0, .ref x1]) (n := 2) (Nat.le_of_ble_eq_true rfl)
  rw [lg_entry_eq]
  generalize (lg_sl ([.ref t0, .ref x1]) ++ List.replicate (2 - (lg_sl ([.ref t0, .ref x1])).length) Slot.unset).toArray = ls at hl ⊢
  have hl : lv_has ls 2 [(0, .ref t0), (1, .ref x1)] := hl
  generalize hle : ([] : List Loc) = locs at hLo ⊢
  unfold f_Pas_init at heq
  refine lv_aload_n hx hb d_Pas_init_0 rfl (lv_at hl 0 rfl) ?_
  refine x_bV (mc := 0) (ms := 0) (st := []) hc hLo heq ⟨by omega, by omega⟩ (fun r9 h9 => x_runIN hc (c_Str_init hc.g rm_Str_init rk_Str_init _ _ _ h9) md_Str_init hR wd_366 wd_35 rfl ⟨_, rfl⟩ hl.1 ml_Str_init rfl (Nat.le_of_ble_eq_true rfl) d_Pas_init_1 ⟨by show 1 + 1 ≤ _; omega, by show 8 + (1 + 11) + (12) ≤ _; omega⟩ ⟨by show 0 + 0 ≤ _; omega, by show 0 + 0 ≤ _; omega⟩) (fun h1 H locs hR hLo heq => ?_)
  refine lv_aload_n hx hb d_Pas_init_4 rfl (lv_at hl 0 rfl) ?_
  refine lv_aload_n hx hb d_Pas_init_5 rfl (lv_at hl 1 rfl) ?_
  refine x_pV hc hR hLo fl_Pas_7 (Or.inr ⟨rfl, rfl⟩) rfl rfl heq d_Pas_init_6 (fun h2 H locs hR hLo heq => ?_)
  exact x_vret hc hR hLo ⟨by omega, by omega⟩ heq d_Pas_init_9
def rm_Pas_init : Room := { frames := 2, cells := 0, slots := 0, locals := 32 }
theorem rk_Pas_init : rm_Ok 0 0 2 32 rm_Pas_init := ⟨Nat.le_refl _, Nat.le_refl _, Nat.le_refl _, Nat.le_refl _⟩
def f_Cod_init (t0 : Nat) (x1 : Nat) (x2 : Int32) (h0 : Hs_t) : Rs_t := bd_V (f_Pas_init t0 x1 h0) (fun h1 => (pt_V [6] 1 h1 t0 (.int x2)).bind fun h2 => re_V h2)
set_option maxRecDepth 100000 in
set_option maxHeartbeats 4000000 in
theorem c_Cod_init {l : Launch} {s0 : State} {A0 : Array Value} {G : Gx_t} (hG : G_0 l s0 A0 G) (rm : Room) (hrm : rm_Ok 0 0 3 53 rm) (t0 : Nat) (x1 : Nat) (x2 : Int32) (h0 : Hs_t) (r : Outcome × Hs_t) (heq : f_Cod_init t0 x1 x2 h0 = some r) : M_X G s0 l y_Cod_init (.code y_Cod_init b_Cod_init 3 none) rm [.ref t0, .ref x1, .int x2] h0 r := by
  refine M_X.of (by decide) hG (fun p e s m below meth c H hc hR => ?_)
  have hx := hc.x
  have hb := hc.b
  obtain ⟨hm1, hm2, hm3, hm4⟩ := id hrm
  have hLo : Lo_k s0 [] := fun _ hq => absurd hq List.not_mem_nil
  have hl := lv_entry ([.ref t0, .ref x1, .int x2]) (n := 3) (Nat.le_of_ble_eq_true rfl)
  rw [lg_entry_eq]
  generalize (lg_sl ([.ref t0, .ref x1, .int x2]) ++ List.replicate (3 - (lg_sl ([.ref t0, .ref x1, .int x2])).length) Slot.unset).toArray = ls at hl ⊢
  have hl : lv_has ls 3 [(0, .ref t0), (1, .ref x1), (2, .int x2)] := hl
  generalize hle : ([] : List Loc) = locs at hLo ⊢
  unfold f_Cod_init at heq
  refine lv_aload_n hx hb d_Cod_init_0 rfl (lv_at hl 0 rfl) ?_
  refine lv_aload_n hx hb d_Cod_init_1 rfl (lv_at hl 1 rfl) ?_
  refine x_bV (mc := 0) (ms := 0) (st := []) hc hLo heq ⟨by omega, by omega⟩ (fun r9 h9 => x_runI hc (c_Pas_init hc.g rm_Pas_init rk_Pas_init _ _ _ _ h9) md_Pas_init hR wd_388 wd_364 rfl ⟨_, rfl⟩ hl.1 ml_Pas_init rfl (Nat.le_of_ble_eq_true rfl) d_Cod_init_2 ⟨by show 2 + 1 ≤ _; omega, by show 8 + (2 + 11) + (32) ≤ _; omega⟩ ⟨by show 0 + 0 ≤ _; omega, by show 0 + 0 ≤ _; omega⟩) (fun h1 H locs hR hLo heq => ?_)
  refine lv_aload_n hx hb d_Cod_init_5 rfl (lv_at hl 0 rfl) ?_
  refine lv_iload_n hx hb d_Cod_init_6 rfl (lv_at hl 2 rfl) ?_
  refine x_pV hc hR hLo fl_Cod_9 (Or.inr ⟨rfl, rfl⟩) rfl rfl heq d_Cod_init_7 (fun h2 H locs hR hLo heq => ?_)
  exact x_vret hc hR hLo ⟨by omega, by omega⟩ heq d_Cod_init_10
def rm_Cod_init : Room := { frames := 3, cells := 0, slots := 0, locals := 53 }
theorem rk_Cod_init : rm_Ok 0 0 3 53 rm_Cod_init := ⟨Nat.le_refl _, Nat.le_refl _, Nat.le_refl _, Nat.le_refl _⟩
def f_Cod_answer_b15 (w_answer : Nat → Int32 → Nat → Int32 → Hs_t → Rs_t) : Nat → Nat → Nat → Int32 → Int32 → Int32 → Hs_t → Rs_t
  | 0, _, _, _, _, _, _ => none
  | n + 1, t0, x2, x3, x4, x5, h0 => if x4 ≤ x5 then (re_I x4 h0) else ((ar_I h0 x2 (x3 + x5)).bind fun v3 => (fd_I [6] 1 h0 t0).bind fun v4 => (fd_I [6] 2 h0 t0).bind fun v5 => (as_I h0 x2 (x3 + x5) (v3 ^^^ ((v4 + v5) &&& 255))).bind fun h2 => (fd_I [6] 2 h2 t0).bind fun v6 => (pt_V [6] 2 h2 t0 (.int (v6 + 1))).bind fun h3 => (f_Cod_answer_b15 w_answer n) t0 x2 x3 x4 (x5 + 1) h3)
def f_Cod_answer (w_answer : Nat → Int32 → Nat → Int32 → Hs_t → Rs_t) (t0 : Nat) (x1 : Int32) (x2 : Nat) (x3 : Int32) (h0 : Hs_t) : Rs_t := (fd_A [6] 0 h0 t0).bind fun v1 => bd_I (w_answer v1 x1 x2 x3 h0) (fun v2 h1 => f_Cod_answer_b15 w_answer fu_N t0 x2 x3 v2 0 h1)
set_option maxRecDepth 100000 in
set_option maxHeartbeats 4000000 in
theorem k_Cod_answer_b15 {p : Program} {l : Launch} {e : Env} {s : State} {m : MethodId} {args : Array Value} {below : List Frame} {meth : Method} {c : Code} {s0 : State} {A0 : Array Value} {G : Gx_t} {r : Outcome × Hs_t} {rm : Room} (FW LW : Nat) (w_answer : Nat → Int32 → Nat → Int32 → Hs_t → Rs_t) (hc : Cx_t p s m meth c s0 A0 l G y_Cod_answer b_Cod_answer 6 (some .int) []) (hrm : rm_Ok 0 0 (FW + 1) (LW + 29) rm) (hw_answer : ∀ (a : Nat) (x1 : Int32) (x2 : Nat) (x3 : Int32) (h : Hs_t) (r0 : Outcome × Hs_t), w_answer a x1 x2 x3 h = some r0 → V_X G s0 l xn_answer { frames := FW, cells := 0, slots := 0, locals := LW } a [.int x1, .ref x2, .int x3] h r0) : ∀ (n : Nat) (t0 : Nat) (x2 : Nat) (x3 : Int32) (x4 : Int32) (x5 : Int32) (h0 : Hs_t) (H : Heap) (locs : List Loc) (ls : Array Slot), Rp_h G s0.heap h0 H → Lo_k s0 locs → lv_has ls 6 [(0, .ref t0), (2, .ref x2), (3, .int x3), (4, .int x4), (5, .int x5)] → f_Cod_answer_b15 w_answer n t0 x2 x3 x4 x5 h0 = some r → W p l e rm s m args below meth c H locs 0 0 (xq_MQ G s0 below r s rm.cells rm.slots) (F0 m 15 ls []) := by
  have hx := hc.x
  have hb := hc.b
  obtain ⟨hm1, hm2, hm3, hm4⟩ := id hrm
  intro n
  induction n with
  | zero =>
    intro t0 x2 x3 x4 x5 h0 H locs ls hR hLo hl heq
    unfold f_Cod_answer_b15 at heq
    cases heq
  | succ n hr15 =>
    intro t0 x2 x3 x4 x5 h0 H locs ls hR hLo hl heq
    unfold f_Cod_answer_b15 at heq
    refine lv_iload hx hb d_Cod_answer_15 (lv_at hl 4 rfl) ?_
    refine lv_iload hx hb d_Cod_answer_17 (lv_at hl 3 rfl) ?_
    refine lv_icmp_ge (tgt := 60) hx hb d_Cod_answer_19 rfl (fun hq => ?_) (fun hq => ?_)
    · rw [if_pos hq] at heq
      refine lv_iload hx hb d_Cod_answer_60 (lv_at hl 3 rfl) ?_
      exact x_iret hc hR hLo ⟨by omega, by omega⟩ heq d_Cod_answer_62
    · rw [if_neg hq] at heq
      refine lv_aload_n hx hb d_Cod_answer_22 rfl (lv_at hl 1 rfl) ?_
      refine lv_iload_n hx hb d_Cod_answer_23 rfl (lv_at hl 2 rfl) ?_
      refine lv_iload hx hb d_Cod_answer_24 (lv_at hl 4 rfl) ?_
      refine lv_iadd hx hb d_Cod_answer_26 ?_
      refine lv_dup2_11 hx hb d_Cod_answer_27 rfl rfl ?_
      refine x_aI hc hR heq d_Cod_answer_28 (fun v3 heq => ?_)
      refine lv_aload_n hx hb d_Cod_answer_29 rfl (lv_at hl 0 rfl) ?_
      refine x_gI hc hR fl_Cod_9 heq d_Cod_answer_30 (fun v4 heq => ?_)
      refine lv_aload_n hx hb d_Cod_answer_33 rfl (lv_at hl 0 rfl) ?_
      refine x_gI hc hR fl_Cod_25 heq d_Cod_answer_34 (fun v5 heq => ?_)
      refine lv_iadd hx hb d_Cod_answer_37 ?_
      refine lv_sipush (v := 255) hx hb d_Cod_answer_38 (by decide) ?_
      refine lv_iand hx hb d_Cod_answer_41 ?_
      refine lv_ixor hx hb d_Cod_answer_42 ?_
      refine x_sI hc hR hLo heq d_Cod_answer_43 (fun h2 H locs hR hLo heq => ?_)
      refine lv_aload_n hx hb d_Cod_answer_44 rfl (lv_at hl 0 rfl) ?_
      refine lv_dup hx hb d_Cod_answer_45 rfl ?_
      refine x_gI hc hR fl_Cod_25 heq d_Cod_answer_46 (fun v6 heq => ?_)
      refine lv_iconst (v := 1) hx hb d_Cod_answer_49 (by decide) ?_
      refine lv_iadd hx hb d_Cod_answer_50 ?_
      refine x_pV hc hR hLo fl_Cod_25 (Or.inl rfl) rfl rfl heq d_Cod_answer_51 (fun h3 H locs hR hLo heq => ?_)
      refine lv_iinc (k := 4) (v := (x5 + 1)) (lv' := [(5, .int (x5 + 1)), (0, .ref t0), (2, .ref x2), (3, .int x3), (4, .int x4)]) hx hb d_Cod_answer_54 hl rfl rfl (by decide) rfl (fun ls hl => ?_)
      refine lv_goto (tgt := 15) hx hb d_Cod_answer_57 rfl ?_
      refine W.widen (k := 0) (n := 0) (by omega) (by omega) ?_
      exact hr15 t0 x2 x3 x4 (x5 + 1) h3 H locs ls hR hLo (lv_sub hl [1, 2, 3, 4, 0] rfl) heq
set_option maxRecDepth 100000 in
set_option maxHeartbeats 4000000 in
theorem c_Cod_answer {l : Launch} {s0 : State} {A0 : Array Value} {G : Gx_t} (hG : G_0 l s0 A0 G) (FW LW : Nat) (w_answer : Nat → Int32 → Nat → Int32 → Hs_t → Rs_t) (rm : Room) (hrm : rm_Ok 0 0 (FW + 1) (LW + 29) rm) (hw_answer : ∀ (a : Nat) (x1 : Int32) (x2 : Nat) (x3 : Int32) (h : Hs_t) (r0 : Outcome × Hs_t), w_answer a x1 x2 x3 h = some r0 → V_X G s0 l xn_answer { frames := FW, cells := 0, slots := 0, locals := LW } a [.int x1, .ref x2, .int x3] h r0) (t0 : Nat) (x1 : Int32) (x2 : Nat) (x3 : Int32) (h0 : Hs_t) (r : Outcome × Hs_t) (heq : f_Cod_answer w_answer t0 x1 x2 x3 h0 = some r) : M_X G s0 l y_Cod_answer (.code y_Cod_answer b_Cod_answer 6 (some .int)) rm [.ref t0, .int x1, .ref x2, .int x3] h0 r := by
  refine M_X.of (by decide) hG (fun p e s m below meth c H hc hR => ?_)
  have hx := hc.x
  have hb := hc.b
  obtain ⟨hm1, hm2, hm3, hm4⟩ := id hrm
  have hLo : Lo_k s0 [] := fun _ hq => absurd hq List.not_mem_nil
  have hl := lv_entry ([.ref t0, .int x1, .ref x2, .int x3]) (n := 6) (Nat.le_of_ble_eq_true rfl)
  rw [lg_entry_eq]
  generalize (lg_sl ([.ref t0, .int x1, .ref x2, .int x3]) ++ List.replicate (6 - (lg_sl ([.ref t0, .int x1, .ref x2, .int x3])).length) Slot.unset).toArray = ls at hl ⊢
  have hl : lv_has ls 6 [(0, .ref t0), (1, .int x1), (2, .ref x2), (3, .int x3)] := hl
  generalize hle : ([] : List Loc) = locs at hLo ⊢
  unfold f_Cod_answer at heq
  refine lv_aload_n hx hb d_Cod_answer_0 rfl (lv_at hl 0 rfl) ?_
  refine x_gA hc hR fl_Cod_15 heq d_Cod_answer_1 (fun v1 heq => ?_)
  refine lv_iload_n hx hb d_Cod_answer_4 rfl (lv_at hl 1 rfl) ?_
  refine lv_aload_n hx hb d_Cod_answer_5 rfl (lv_at hl 2 rfl) ?_
  refine lv_iload_n hx hb d_Cod_answer_6 rfl (lv_at hl 3 rfl) ?_
  refine x_bI (mc := 0) (ms := 0) (st := []) hc hLo heq ⟨by omega, by omega⟩ (fun r9 h9 => x_runW hc (hw_answer _ _ _ _ _ _ h9) hR wd_452 wd_445 (Or.inl wd_444) (by decide) hl.1 xl_answer rfl (Nat.le_of_ble_eq_true rfl) d_Cod_answer_7 ⟨by show FW + 0 + 1 ≤ _; omega, by show 8 + (10 + 11) + (LW + 0) ≤ _; omega⟩ ⟨by show 0 + 0 ≤ _; omega, by show 0 + 0 ≤ _; omega⟩) (fun v2 h1 H locs hR hLo heq => ?_)
  refine lv_istore (lv' := [(4, .int v2), (0, .ref t0), (1, .int x1), (2, .ref x2), (3, .int x3)]) hx hb d_Cod_answer_10 hl (by decide) rfl (fun ls hl => ?_)
  refine lv_iconst (v := 0) hx hb d_Cod_answer_12 (by decide) ?_
  refine lv_istore (lv' := [(5, .int 0), (4, .int v2), (0, .ref t0), (1, .int x1), (2, .ref x2), (3, .int x3)]) hx hb d_Cod_answer_13 hl (by decide) rfl (fun ls hl => ?_)
  refine W.widen (k := 0) (n := 0) (by omega) (by omega) ?_
  exact k_Cod_answer_b15 FW LW w_answer hc hrm hw_answer fu_N t0 x2 x3 v2 0 h1 H locs ls hR hLo (lv_sub hl [2, 4, 5, 1, 0] rfl) heq
def f_Cod_state (t0 : Nat) (h0 : Hs_t) : Rs_t := (fd_I [6] 2 h0 t0).bind fun v1 => re_I v1 h0
set_option maxRecDepth 100000 in
set_option maxHeartbeats 4000000 in
theorem c_Cod_state {l : Launch} {s0 : State} {A0 : Array Value} {G : Gx_t} (hG : G_0 l s0 A0 G) (rm : Room) (hrm : rm_Ok 0 0 0 0 rm) (t0 : Nat) (h0 : Hs_t) (r : Outcome × Hs_t) (heq : f_Cod_state t0 h0 = some r) : M_X G s0 l y_Cod_state (.code y_Cod_state b_Cod_state 1 (some .int)) rm [.ref t0] h0 r := by
  refine M_X.of (by decide) hG (fun p e s m below meth c H hc hR => ?_)
  have hx := hc.x
  have hb := hc.b
  obtain ⟨hm1, hm2, hm3, hm4⟩ := id hrm
  have hLo : Lo_k s0 [] := fun _ hq => absurd hq List.not_mem_nil
  have hl := lv_entry ([.ref t0]) (n := 1) (Nat.le_of_ble_eq_true rfl)
  rw [lg_entry_eq]
  generalize (lg_sl ([.ref t0]) ++ List.replicate (1 - (lg_sl ([.ref t0])).length) Slot.unset).toArray = ls at hl ⊢
  have hl : lv_has ls 1 [(0, .ref t0)] := hl
  generalize hle : ([] : List Loc) = locs at hLo ⊢
  unfold f_Cod_state at heq
  refine lv_aload_n hx hb d_Cod_state_0 rfl (lv_at hl 0 rfl) ?_
  refine x_gI hc hR fl_Cod_25 heq d_Cod_state_1 (fun v1 heq => ?_)
  exact x_iret hc hR hLo ⟨by omega, by omega⟩ heq d_Cod_state_4
def rm_Cod_state : Room := { frames := 0, cells := 0, slots := 0, locals := 0 }
theorem rk_Cod_state : rm_Ok 0 0 0 0 rm_Cod_state := ⟨Nat.le_refl _, Nat.le_refl _, Nat.le_refl _, Nat.le_refl _⟩
def f_Cod_remember (t0 : Nat) (h0 : Hs_t) : Rs_t := (fd_I [6] 2 h0 t0).bind fun v1 => (pt_V [6] 3 h0 t0 (.int v1)).bind fun h1 => re_V h1
set_option maxRecDepth 100000 in
set_option maxHeartbeats 4000000 in
theorem c_Cod_remember {l : Launch} {s0 : State} {A0 : Array Value} {G : Gx_t} (hG : G_0 l s0 A0 G) (rm : Room) (hrm : rm_Ok 0 0 0 0 rm) (t0 : Nat) (h0 : Hs_t) (r : Outcome × Hs_t) (heq : f_Cod_remember t0 h0 = some r) : M_X G s0 l y_Cod_remember (.code y_Cod_remember b_Cod_remember 1 none) rm [.ref t0] h0 r := by
  refine M_X.of (by decide) hG (fun p e s m below meth c H hc hR => ?_)
  have hx := hc.x
  have hb := hc.b
  obtain ⟨hm1, hm2, hm3, hm4⟩ := id hrm
  have hLo : Lo_k s0 [] := fun _ hq => absurd hq List.not_mem_nil
  have hl := lv_entry ([.ref t0]) (n := 1) (Nat.le_of_ble_eq_true rfl)
  rw [lg_entry_eq]
  generalize (lg_sl ([.ref t0]) ++ List.replicate (1 - (lg_sl ([.ref t0])).length) Slot.unset).toArray = ls at hl ⊢
  have hl : lv_has ls 1 [(0, .ref t0)] := hl
  generalize hle : ([] : List Loc) = locs at hLo ⊢
  unfold f_Cod_remember at heq
  refine lv_aload_n hx hb d_Cod_remember_0 rfl (lv_at hl 0 rfl) ?_
  refine lv_aload_n hx hb d_Cod_remember_1 rfl (lv_at hl 0 rfl) ?_
  refine x_gI hc hR fl_Cod_25 heq d_Cod_remember_2 (fun v1 heq => ?_)
  refine x_pV hc hR hLo fl_Cod_28 (Or.inl rfl) rfl rfl heq d_Cod_remember_5 (fun h1 H locs hR hLo heq => ?_)
  exact x_vret hc hR hLo ⟨by omega, by omega⟩ heq d_Cod_remember_8
def rm_Cod_remember : Room := { frames := 0, cells := 0, slots := 0, locals := 0 }
theorem rk_Cod_remember : rm_Ok 0 0 0 0 rm_Cod_remember := ⟨Nat.le_refl _, Nat.le_refl _, Nat.le_refl _, Nat.le_refl _⟩
def f_Cod_recall (t0 : Nat) (h0 : Hs_t) : Rs_t := (fd_I [6] 3 h0 t0).bind fun v1 => (pt_V [6] 2 h0 t0 (.int v1)).bind fun h1 => re_V h1
set_option maxRecDepth 100000 in
set_option maxHeartbeats 4000000 in
theorem c_Cod_recall {l : Launch} {s0 : State} {A0 : Array Value} {G : Gx_t} (hG : G_0 l s0 A0 G) (rm : Room) (hrm : rm_Ok 0 0 0 0 rm) (t0 : Nat) (h0 : Hs_t) (r : Outcome × Hs_t) (heq : f_Cod_recall t0 h0 = some r) : M_X G s0 l y_Cod_recall (.code y_Cod_recall b_Cod_recall 1 none) rm [.ref t0] h0 r := by
  refine M_X.of (by decide) hG (fun p e s m below meth c H hc hR => ?_)
  have hx := hc.x
  have hb := hc.b
  obtain ⟨hm1, hm2, hm3, hm4⟩ := id hrm
  have hLo : Lo_k s0 [] := fun _ hq => absurd hq List.not_mem_nil
  have hl := lv_entry ([.ref t0]) (n := 1) (Nat.le_of_ble_eq_true rfl)
  rw [lg_entry_eq]
  generalize (lg_sl ([.ref t0]) ++ List.replicate (1 - (lg_sl ([.ref t0])).length) Slot.unset).toArray = ls at hl ⊢
  have hl : lv_has ls 1 [(0, .ref t0)] := hl
  generalize hle : ([] : List Loc) = locs at hLo ⊢
  unfold f_Cod_recall at heq
  refine lv_aload_n hx hb d_Cod_recall_0 rfl (lv_at hl 0 rfl) ?_
  refine lv_aload_n hx hb d_Cod_recall_1 rfl (lv_at hl 0 rfl) ?_
  refine x_gI hc hR fl_Cod_28 heq d_Cod_recall_2 (fun v1 heq => ?_)
  refine x_pV hc hR hLo fl_Cod_25 (Or.inl rfl) rfl rfl heq d_Cod_recall_5 (fun h1 H locs hR hLo heq => ?_)
  exact x_vret hc hR hLo ⟨by omega, by omega⟩ heq d_Cod_recall_8
def rm_Cod_recall : Room := { frames := 0, cells := 0, slots := 0, locals := 0 }
theorem rk_Cod_recall : rm_Ok 0 0 0 0 rm_Cod_recall := ⟨Nat.le_refl _, Nat.le_refl _, Nat.le_refl _, Nat.le_refl _⟩
def f_Lim_init (t0 : Nat) (x1 : Nat) (x2 : Int32) (h0 : Hs_t) : Rs_t := bd_V (f_Pas_init t0 x1 h0) (fun h1 => (pt_V [5] 1 h1 t0 (.int x2)).bind fun h2 => (pt_V [5] 2 h2 t0 (.int x2)).bind fun h3 => re_V h3)
set_option maxRecDepth 100000 in
set_option maxHeartbeats 4000000 in
theorem c_Lim_init {l : Launch} {s0 : State} {A0 : Array Value} {G : Gx_t} (hG : G_0 l s0 A0 G) (rm : Room) (hrm : rm_Ok 0 0 3 53 rm) (t0 : Nat) (x1 : Nat) (x2 : Int32) (h0 : Hs_t) (r : Outcome × Hs_t) (heq : f_Lim_init t0 x1 x2 h0 = some r) : M_X G s0 l y_Lim_init (.code y_Lim_init b_Lim_init 3 none) rm [.ref t0, .ref x1, .int x2] h0 r := by
  refine M_X.of (by decide) hG (fun p e s m below meth c H hc hR => ?_)
  have hx := hc.x
  have hb := hc.b
  obtain ⟨hm1, hm2, hm3, hm4⟩ := id hrm
  have hLo : Lo_k s0 [] := fun _ hq => absurd hq List.not_mem_nil
  have hl := lv_entry ([.ref t0, .ref x1, .int x2]) (n := 3) (Nat.le_of_ble_eq_true rfl)
  rw [lg_entry_eq]
  generalize (lg_sl ([.ref t0, .ref x1, .int x2]) ++ List.replicate (3 - (lg_sl ([.ref t0, .ref x1, .int x2])).length) Slot.unset).toArray = ls at hl ⊢
  have hl : lv_has ls 3 [(0, .ref t0), (1, .ref x1), (2, .int x2)] := hl
  generalize hle : ([] : List Loc) = locs at hLo ⊢
  unfold f_Lim_init at heq
  refine lv_aload_n hx hb d_Lim_init_0 rfl (lv_at hl 0 rfl) ?_
  refine lv_aload_n hx hb d_Lim_init_1 rfl (lv_at hl 1 rfl) ?_
  refine x_bV (mc := 0) (ms := 0) (st := []) hc hLo heq ⟨by omega, by omega⟩ (fun r9 h9 => x_runI hc (c_Pas_init hc.g rm_Pas_init rk_Pas_init _ _ _ _ h9) md_Pas_init hR wd_363 wd_364 rfl ⟨_, rfl⟩ hl.1 ml_Pas_init rfl (Nat.le_of_ble_eq_true rfl) d_Lim_init_2 ⟨by show 2 + 1 ≤ _; omega, by show 8 + (2 + 11) + (32) ≤ _; omega⟩ ⟨by show 0 + 0 ≤ _; omega, by show 0 + 0 ≤ _; omega⟩) (fun h1 H locs hR hLo heq => ?_)
  refine lv_aload_n hx hb d_Lim_init_5 rfl (lv_at hl 0 rfl) ?_
  refine lv_iload_n hx hb d_Lim_init_6 rfl (lv_at hl 2 rfl) ?_
  refine x_pV hc hR hLo fl_Lim_9 (Or.inl rfl) rfl rfl heq d_Lim_init_7 (fun h2 H locs hR hLo heq => ?_)
  refine lv_aload_n hx hb d_Lim_init_10 rfl (lv_at hl 0 rfl) ?_
  refine lv_iload_n hx hb d_Lim_init_11 rfl (lv_at hl 2 rfl) ?_
  refine x_pV hc hR hLo fl_Lim_15 (Or.inl rfl) rfl rfl heq d_Lim_init_12 (fun h3 H locs hR hLo heq => ?_)
  exact x_vret hc hR hLo ⟨by omega, by omega⟩ heq d_Lim_init_15
def rm_Lim_init : Room := { frames := 3, cells := 0, slots := 0, locals := 53 }
theorem rk_Lim_init : rm_Ok 0 0 3 53 rm_Lim_init := ⟨Nat.le_refl _, Nat.le_refl _, Nat.le_refl _, Nat.le_refl _⟩
def f_Lim_answer_b45 (w_answer : Nat → Int32 → Nat → Int32 → Hs_t → Rs_t) (x4 : Int32) (h0 : Hs_t) : Rs_t := re_I x4 h0
def f_Lim_answer (w_answer : Nat → Int32 → Nat → Int32 → Hs_t → Rs_t) (t0 : Nat) (x1 : Int32) (x2 : Nat) (x3 : Int32) (h0 : Hs_t) : Rs_t := (fd_I [5] 1 h0 t0).bind fun v1 => if v1 = 0 then (re_I 0 h0) else ((fd_A [5] 0 h0 t0).bind fun v2 => (fd_I [5] 1 h0 t0).bind fun v3 => bd_I (w_answer v2 (if v3 < x1 then v3 else x1) x2 x3 h0) (fun v4 h1 => if v4 = (-1) then (f_Lim_answer_b45 w_answer v4 h1) else ((fd_I [5] 1 h1 t0).bind fun v5 => (pt_V [5] 1 h1 t0 (.int (v5 - v4))).bind fun h2 => f_Lim_answer_b45 w_answer v4 h2)))
set_option maxRecDepth 100000 in
set_option maxHeartbeats 4000000 in
theorem k_Lim_answer_b45 {p : Program} {l : Launch} {e : Env} {s : State} {m : MethodId} {args : Array Value} {below : List Frame} {meth : Method} {c : Code} {s0 : State} {A0 : Array Value} {G : Gx_t} {r : Outcome × Hs_t} {rm : Room} (FW LW : Nat) (w_answer : Nat → Int32 → Nat → Int32 → Hs_t → Rs_t) (hc : Cx_t p s m meth c s0 A0 l G y_Lim_answer b_Lim_answer 5 (some .int) []) (hrm : rm_Ok 0 0 (FW + 1) (LW + 29) rm) (hw_answer : ∀ (a : Nat) (x1 : Int32) (x2 : Nat) (x3 : Int32) (h : Hs_t) (r0 : Outcome × Hs_t), w_answer a x1 x2 x3 h = some r0 → V_X G s0 l xn_answer { frames := FW, cells := 0, slots := 0, locals := LW } a [.int x1, .ref x2, .int x3] h r0) : ∀ (x4 : Int32) (h0 : Hs_t) (H : Heap) (locs : List Loc) (ls : Array Slot), Rp_h G s0.heap h0 H → Lo_k s0 locs → lv_has ls 5 [(4, .int x4)] → f_Lim_answer_b45 w_answer x4 h0 = some r → W p l e rm s m args below meth c H locs 0 0 (xq_MQ G s0 below r s rm.cells rm.slots) (F0 m 45 ls []) := by
  have hx := hc.x
  have hb := hc.b
  obtain ⟨hm1, hm2, hm3, hm4⟩ := id hrm
  intro x4 h0 H locs ls hR hLo hl heq
  unfold f_Lim_answer_b45 at heq
  refine lv_iload hx hb d_Lim_answer_45 (lv_at hl 0 rfl) ?_
  exact x_iret hc hR hLo ⟨by omega, by omega⟩ heq d_Lim_answer_47
set_option maxRecDepth 100000 in
set_option maxHeartbeats 4000000 in
theorem c_Lim_answer {l : Launch} {s0 : State} {A0 : Array Value} {G : Gx_t} (hG : G_0 l s0 A0 G) (FW LW : Nat) (w_answer : Nat → Int32 → Nat → Int32 → Hs_t → Rs_t) (rm : Room) (hrm : rm_Ok 0 0 (FW + 1) (LW + 29) rm) (hw_answer : ∀ (a : Nat) (x1 : Int32) (x2 : Nat) (x3 : Int32) (h : Hs_t) (r0 : Outcome × Hs_t), w_answer a x1 x2 x3 h = some r0 → V_X G s0 l xn_answer { frames := FW, cells := 0, slots := 0, locals := LW } a [.int x1, .ref x2, .int x3] h r0) (t0 : Nat) (x1 : Int32) (x2 : Nat) (x3 : Int32) (h0 : Hs_t) (r : Outcome × Hs_t) (heq : f_Lim_answer w_answer t0 x1 x2 x3 h0 = some r) : M_X G s0 l y_Lim_answer (.code y_Lim_answer b_Lim_answer 5 (some .int)) rm [.ref t0, .int x1, .ref x2, .int x3] h0 r := by
  refine M_X.of (by decide) hG (fun p e s m below meth c H hc hR => ?_)
  have hx := hc.x
  have hb := hc.b
  obtain ⟨hm1, hm2, hm3, hm4⟩ := id hrm
  have hLo : Lo_k s0 [] := fun _ hq => absurd hq List.not_mem_nil
  have hl := lv_entry ([.ref t0, .int x1, .ref x2, .int x3]) (n := 5) (Nat.le_of_ble_eq_true rfl)
  rw [lg_entry_eq]
  generalize (lg_sl ([.ref t0, .int x1, .ref x2, .int x3]) ++ List.replicate (5 - (lg_sl ([.ref t0, .int x1, .ref x2, .int x3])).length) Slot.unset).toArray = ls at hl ⊢
  have hl : lv_has ls 5 [(0, .ref t0), (1, .int x1), (2, .ref x2), (3, .int x3)] := hl
  generalize hle : ([] : List Loc) = locs at hLo ⊢
  unfold f_Lim_answer at heq
  refine lv_aload_n hx hb d_Lim_answer_0 rfl (lv_at hl 0 rfl) ?_
  refine x_gI hc hR fl_Lim_9 heq d_Lim_answer_1 (fun v1 heq => ?_)
  refine lv_if_ne (tgt := 9) hx hb d_Lim_answer_4 rfl (fun hq => ?_) (fun hq => ?_)
  · rw [if_neg hq] at heq
    refine lv_aload_n hx hb d_Lim_answer_9 rfl (lv_at hl 0 rfl) ?_
    refine x_gA hc hR fl_Lim_18 heq d_Lim_answer_10 (fun v2 heq => ?_)
    refine lv_iload_n hx hb d_Lim_answer_13 rfl (lv_at hl 1 rfl) ?_
    refine lv_aload_n hx hb d_Lim_answer_14 rfl (lv_at hl 0 rfl) ?_
    refine x_gI hc hR fl_Lim_9 heq d_Lim_answer_15 (fun v3 heq => ?_)
    refine x_min hc hl.1 wd_146 wd_147 wd_17 wd_148 (by omega) (by show 1 + 13 ≤ _; omega) ⟨by omega, by omega⟩ d_Lim_answer_18 ?_
    refine lv_aload_n hx hb d_Lim_answer_21 rfl (lv_at hl 2 rfl) ?_
    refine lv_iload_n hx hb d_Lim_answer_22 rfl (lv_at hl 3 rfl) ?_
    refine x_bI (mc := 0) (ms := 0) (st := []) hc hLo heq ⟨by omega, by omega⟩ (fun r9 h9 => x_runW hc (hw_answer _ _ _ _ _ _ h9) hR wd_455 wd_445 (Or.inl wd_444) (by decide) hl.1 xl_answer rfl (Nat.le_of_ble_eq_true rfl) d_Lim_answer_23 ⟨by show FW + 0 + 1 ≤ _; omega, by show 8 + (10 + 11) + (LW + 0) ≤ _; omega⟩ ⟨by show 0 + 0 ≤ _; omega, by show 0 + 0 ≤ _; omega⟩) (fun v4 h1 H locs hR hLo heq => ?_)
    refine lv_istore (lv' := [(4, .int v4), (0, .ref t0), (1, .int x1), (2, .ref x2), (3, .int x3)]) hx hb d_Lim_answer_26 hl (by decide) rfl (fun ls hl => ?_)
    refine lv_iload hx hb d_Lim_answer_28 (lv_at hl 0 rfl) ?_
    refine lv_iconst (v := (-1)) hx hb d_Lim_answer_30 (by decide) ?_
    refine lv_icmp_eq (tgt := 45) hx hb d_Lim_answer_31 rfl (fun hq => ?_) (fun hq => ?_)
    · rw [if_pos hq] at heq
      refine W.widen (k := 0) (n := 0) (by omega) (by omega) ?_
      exact k_Lim_answer_b45 FW LW w_answer hc hrm hw_answer v4 h1 H locs ls hR hLo (lv_sub hl [0] rfl) heq
    · rw [if_neg hq] at heq
      refine lv_aload_n hx hb d_Lim_answer_34 rfl (lv_at hl 1 rfl) ?_
      refine lv_dup hx hb d_Lim_answer_35 rfl ?_
      refine x_gI hc hR fl_Lim_9 heq d_Lim_answer_36 (fun v5 heq => ?_)
      refine lv_iload hx hb d_Lim_answer_39 (lv_at hl 0 rfl) ?_
      refine lv_isub hx hb d_Lim_answer_41 ?_
      refine x_pV hc hR hLo fl_Lim_9 (Or.inl rfl) rfl rfl heq d_Lim_answer_42 (fun h2 H locs hR hLo heq => ?_)
      refine W.widen (k := 0) (n := 0) (by omega) (by omega) ?_
      exact k_Lim_answer_b45 FW LW w_answer hc hrm hw_answer v4 h2 H locs ls hR hLo (lv_sub hl [0] rfl) heq
  · rw [if_pos hq] at heq
    refine lv_iconst (v := 0) hx hb d_Lim_answer_7 (by decide) ?_
    exact x_iret hc hR hLo ⟨by omega, by omega⟩ heq d_Lim_answer_8
def f_Lim_ready (w_ready : Nat → Hs_t → Rs_t) (t0 : Nat) (h0 : Hs_t) : Rs_t := (fd_I [5] 1 h0 t0).bind fun v1 => (fd_A [5] 0 h0 t0).bind fun v2 => bd_I (w_ready v2 h0) (fun v3 h1 => re_I (if v3 < v1 then v3 else v1) h1)
set_option maxRecDepth 100000 in
set_option maxHeartbeats 4000000 in
theorem c_Lim_ready {l : Launch} {s0 : State} {A0 : Array Value} {G : Gx_t} (hG : G_0 l s0 A0 G) (FW LW : Nat) (w_ready : Nat → Hs_t → Rs_t) (rm : Room) (hrm : rm_Ok 0 0 (FW + 1) (LW + 29) rm) (hw_ready : ∀ (a : Nat) (h : Hs_t) (r0 : Outcome × Hs_t), w_ready a h = some r0 → V_X G s0 l xn_ready { frames := FW, cells := 0, slots := 0, locals := LW } a [] h r0) (t0 : Nat) (h0 : Hs_t) (r : Outcome × Hs_t) (heq : f_Lim_ready w_ready t0 h0 = some r) : M_X G s0 l y_Lim_ready (.code y_Lim_ready b_Lim_ready 1 (some .int)) rm [.ref t0] h0 r := by
  refine M_X.of (by decide) hG (fun p e s m below meth c H hc hR => ?_)
  have hx := hc.x
  have hb := hc.b
  obtain ⟨hm1, hm2, hm3, hm4⟩ := id hrm
  have hLo : Lo_k s0 [] := fun _ hq => absurd hq List.not_mem_nil
  have hl := lv_entry ([.ref t0]) (n := 1) (Nat.le_of_ble_eq_true rfl)
  rw [lg_entry_eq]
  generalize (lg_sl ([.ref t0]) ++ List.replicate (1 - (lg_sl ([.ref t0])).length) Slot.unset).toArray = ls at hl ⊢
  have hl : lv_has ls 1 [(0, .ref t0)] := hl
  generalize hle : ([] : List Loc) = locs at hLo ⊢
  unfold f_Lim_ready at heq
  refine lv_aload_n hx hb d_Lim_ready_0 rfl (lv_at hl 0 rfl) ?_
  refine x_gI hc hR fl_Lim_9 heq d_Lim_ready_1 (fun v1 heq => ?_)
  refine lv_aload_n hx hb d_Lim_ready_4 rfl (lv_at hl 0 rfl) ?_
  refine x_gA hc hR fl_Lim_18 heq d_Lim_ready_5 (fun v2 heq => ?_)
  refine x_bI (mc := 0) (ms := 0) (st := [.int v1]) hc hLo heq ⟨by omega, by omega⟩ (fun r9 h9 => x_runW hc (hw_ready _ _ _ h9) hR wd_140 wd_130 (Or.inl wd_129) (by decide) hl.1 xl_ready rfl (Nat.le_of_ble_eq_true rfl) d_Lim_ready_8 ⟨by show FW + 0 + 1 ≤ _; omega, by show 8 + (10 + 11) + (LW + 0) ≤ _; omega⟩ ⟨by show 0 + 0 ≤ _; omega, by show 0 + 0 ≤ _; omega⟩) (fun v3 h1 H locs hR hLo heq => ?_)
  refine x_min hc hl.1 wd_146 wd_147 wd_17 wd_148 (by omega) (by show 0 + 13 ≤ _; omega) ⟨by omega, by omega⟩ d_Lim_ready_11 ?_
  exact x_iret hc hR hLo ⟨by omega, by omega⟩ heq d_Lim_ready_14
def f_Lim_state (t0 : Nat) (h0 : Hs_t) : Rs_t := (fd_I [5] 1 h0 t0).bind fun v1 => re_I v1 h0
set_option maxRecDepth 100000 in
set_option maxHeartbeats 4000000 in
theorem c_Lim_state {l : Launch} {s0 : State} {A0 : Array Value} {G : Gx_t} (hG : G_0 l s0 A0 G) (rm : Room) (hrm : rm_Ok 0 0 0 0 rm) (t0 : Nat) (h0 : Hs_t) (r : Outcome × Hs_t) (heq : f_Lim_state t0 h0 = some r) : M_X G s0 l y_Lim_state (.code y_Lim_state b_Lim_state 1 (some .int)) rm [.ref t0] h0 r := by
  refine M_X.of (by decide) hG (fun p e s m below meth c H hc hR => ?_)
  have hx := hc.x
  have hb := hc.b
  obtain ⟨hm1, hm2, hm3, hm4⟩ := id hrm
  have hLo : Lo_k s0 [] := fun _ hq => absurd hq List.not_mem_nil
  have hl := lv_entry ([.ref t0]) (n := 1) (Nat.le_of_ble_eq_true rfl)
  rw [lg_entry_eq]
  generalize (lg_sl ([.ref t0]) ++ List.replicate (1 - (lg_sl ([.ref t0])).length) Slot.unset).toArray = ls at hl ⊢
  have hl : lv_has ls 1 [(0, .ref t0)] := hl
  generalize hle : ([] : List Loc) = locs at hLo ⊢
  unfold f_Lim_state at heq
  refine lv_aload_n hx hb d_Lim_state_0 rfl (lv_at hl 0 rfl) ?_
  refine x_gI hc hR fl_Lim_9 heq d_Lim_state_1 (fun v1 heq => ?_)
  exact x_iret hc hR hLo ⟨by omega, by omega⟩ heq d_Lim_state_4
def rm_Lim_state : Room := { frames := 0, cells := 0, slots := 0, locals := 0 }
theorem rk_Lim_state : rm_Ok 0 0 0 0 rm_Lim_state := ⟨Nat.le_refl _, Nat.le_refl _, Nat.le_refl _, Nat.le_refl _⟩
def f_Lim_remember (t0 : Nat) (h0 : Hs_t) : Rs_t := (fd_I [5] 1 h0 t0).bind fun v1 => (pt_V [5] 2 h0 t0 (.int v1)).bind fun h1 => re_V h1
set_option maxRecDepth 100000 in
set_option maxHeartbeats 4000000 in
theorem c_Lim_remember {l : Launch} {s0 : State} {A0 : Array Value} {G : Gx_t} (hG : G_0 l s0 A0 G) (rm : Room) (hrm : rm_Ok 0 0 0 0 rm) (t0 : Nat) (h0 : Hs_t) (r : Outcome × Hs_t) (heq : f_Lim_remember t0 h0 = some r) : M_X G s0 l y_Lim_remember (.code y_Lim_remember b_Lim_remember 1 none) rm [.ref t0] h0 r := by
  refine M_X.of (by decide) hG (fun p e s m below meth c H hc hR => ?_)
  have hx := hc.x
  have hb := hc.b
  obtain ⟨hm1, hm2, hm3, hm4⟩ := id hrm
  have hLo : Lo_k s0 [] := fun _ hq => absurd hq List.not_mem_nil
  have hl := lv_entry ([.ref t0]) (n := 1) (Nat.le_of_ble_eq_true rfl)
  rw [lg_entry_eq]
  generalize (lg_sl ([.ref t0]) ++ List.replicate (1 - (lg_sl ([.ref t0])).length) Slot.unset).toArray = ls at hl ⊢
  have hl : lv_has ls 1 [(0, .ref t0)] := hl
  generalize hle : ([] : List Loc) = locs at hLo ⊢
  unfold f_Lim_remember at heq
  refine lv_aload_n hx hb d_Lim_remember_0 rfl (lv_at hl 0 rfl) ?_
  refine lv_aload_n hx hb d_Lim_remember_1 rfl (lv_at hl 0 rfl) ?_
  refine x_gI hc hR fl_Lim_9 heq d_Lim_remember_2 (fun v1 heq => ?_)
  refine x_pV hc hR hLo fl_Lim_15 (Or.inl rfl) rfl rfl heq d_Lim_remember_5 (fun h1 H locs hR hLo heq => ?_)
  exact x_vret hc hR hLo ⟨by omega, by omega⟩ heq d_Lim_remember_8
def rm_Lim_remember : Room := { frames := 0, cells := 0, slots := 0, locals := 0 }
theorem rk_Lim_remember : rm_Ok 0 0 0 0 rm_Lim_remember := ⟨Nat.le_refl _, Nat.le_refl _, Nat.le_refl _, Nat.le_refl _⟩
def f_Lim_recall (t0 : Nat) (h0 : Hs_t) : Rs_t := (fd_I [5] 2 h0 t0).bind fun v1 => (pt_V [5] 1 h0 t0 (.int v1)).bind fun h1 => re_V h1
set_option maxRecDepth 100000 in
set_option maxHeartbeats 4000000 in
theorem c_Lim_recall {l : Launch} {s0 : State} {A0 : Array Value} {G : Gx_t} (hG : G_0 l s0 A0 G) (rm : Room) (hrm : rm_Ok 0 0 0 0 rm) (t0 : Nat) (h0 : Hs_t) (r : Outcome × Hs_t) (heq : f_Lim_recall t0 h0 = some r) : M_X G s0 l y_Lim_recall (.code y_Lim_recall b_Lim_recall 1 none) rm [.ref t0] h0 r := by
  refine M_X.of (by decide) hG (fun p e s m below meth c H hc hR => ?_)
  have hx := hc.x
  have hb := hc.b
  obtain ⟨hm1, hm2, hm3, hm4⟩ := id hrm
  have hLo : Lo_k s0 [] := fun _ hq => absurd hq List.not_mem_nil
  have hl := lv_entry ([.ref t0]) (n := 1) (Nat.le_of_ble_eq_true rfl)
  rw [lg_entry_eq]
  generalize (lg_sl ([.ref t0]) ++ List.replicate (1 - (lg_sl ([.ref t0])).length) Slot.unset).toArray = ls at hl ⊢
  have hl : lv_has ls 1 [(0, .ref t0)] := hl
  generalize hle : ([] : List Loc) = locs at hLo ⊢
  unfold f_Lim_recall at heq
  refine lv_aload_n hx hb d_Lim_recall_0 rfl (lv_at hl 0 rfl) ?_
  refine lv_aload_n hx hb d_Lim_recall_1 rfl (lv_at hl 0 rfl) ?_
  refine x_gI hc hR fl_Lim_15 heq d_Lim_recall_2 (fun v1 heq => ?_)
  refine x_pV hc hR hLo fl_Lim_9 (Or.inl rfl) rfl rfl heq d_Lim_recall_5 (fun h1 H locs hR hLo heq => ?_)
  exact x_vret hc hR hLo ⟨by omega, by omega⟩ heq d_Lim_recall_8
def rm_Lim_recall : Room := { frames := 0, cells := 0, slots := 0, locals := 0 }
theorem rk_Lim_recall : rm_Ok 0 0 0 0 rm_Lim_recall := ⟨Nat.le_refl _, Nat.le_refl _, Nat.le_refl _, Nat.le_refl _⟩
def f_Lin_init (t0 : Nat) (x1 : Nat) (h0 : Hs_t) : Rs_t := bd_V (f_Pas_init t0 x1 h0) (fun h1 => re_V h1)
set_option maxRecDepth 100000 in
set_option maxHeartbeats 4000000 in
theorem c_Lin_init {l : Launch} {s0 : State} {A0 : Array Value} {G : Gx_t} (hG : G_0 l s0 A0 G) (rm : Room) (hrm : rm_Ok 0 0 3 53 rm) (t0 : Nat) (x1 : Nat) (h0 : Hs_t) (r : Outcome × Hs_t) (heq : f_Lin_init t0 x1 h0 = some r) : M_X G s0 l y_Lin_init (.code y_Lin_init b_Lin_init 2 none) rm [.ref t0, .ref x1] h0 r := by
  refine M_X.of (by decide) hG (fun p e s m below meth c H hc hR => ?_)
  have hx := hc.x
  have hb := hc.b
  obtain ⟨hm1, hm2, hm3, hm4⟩ := id hrm
  have hLo : Lo_k s0 [] := fun _ hq => absurd hq List.not_mem_nil
  have hl := lv_entry ([.ref t0, .ref x1]) (n := 2) (Nat.le_of_ble_eq_true rfl)
  rw [lg_entry_eq]
  generalize (lg_sl ([.ref t0, .ref x1]) ++ List.replicate (2 - (lg_sl ([.ref t0, .ref x1])).length) Slot.unset).toArray = ls at hl ⊢
  have hl : lv_has ls 2 [(0, .ref t0), (1, .ref x1)] := hl
  generalize hle : ([] : List Loc) = locs at hLo ⊢
  unfold f_Lin_init at heq
  refine lv_aload_n hx hb d_Lin_init_0 rfl (lv_at hl 0 rfl) ?_
  refine lv_aload_n hx hb d_Lin_init_1 rfl (lv_at hl 1 rfl) ?_
  refine x_bV (mc := 0) (ms := 0) (st := []) hc hLo heq ⟨by omega, by omega⟩ (fun r9 h9 => x_runI hc (c_Pas_init hc.g rm_Pas_init rk_Pas_init _ _ _ _ h9) md_Pas_init hR wd_405 wd_364 rfl ⟨_, rfl⟩ hl.1 ml_Pas_init rfl (Nat.le_of_ble_eq_true rfl) d_Lin_init_2 ⟨by show 2 + 1 ≤ _; omega, by show 8 + (2 + 11) + (32) ≤ _; omega⟩ ⟨by show 0 + 0 ≤ _; omega, by show 0 + 0 ≤ _; omega⟩) (fun h1 H locs hR hLo heq => ?_)
  exact x_vret hc hR hLo ⟨by omega, by omega⟩ heq d_Lin_init_5
def rm_Lin_init : Room := { frames := 3, cells := 0, slots := 0, locals := 53 }
theorem rk_Lin_init : rm_Ok 0 0 3 53 rm_Lin_init := ⟨Nat.le_refl _, Nat.le_refl _, Nat.le_refl _, Nat.le_refl _⟩
def f_Lin_countLineEnd_b41 (sv0 : Int32) (sv1 : Nat) (h0 : Hs_t) : Rs_t := (pt_Z [7] 3 h0 sv1 sv0).bind fun h1 => re_V h1
def f_Lin_countLineEnd_b29 (t0 : Nat) (x1 : Int32) (h0 : Hs_t) : Rs_t := if x1 = 13 then (f_Lin_countLineEnd_b41 1 t0 h0) else (f_Lin_countLineEnd_b41 0 t0 h0)
def f_Lin_countLineEnd_b19 (t0 : Nat) (x1 : Int32) (h0 : Hs_t) : Rs_t := (fd_I [7] 1 h0 t0).bind fun v2 => (pt_V [7] 1 h0 t0 (.int (v2 + 1))).bind fun h2 => f_Lin_countLineEnd_b29 t0 x1 h2
def f_Lin_countLineEnd (t0 : Nat) (x1 : Int32) (h0 : Hs_t) : Rs_t := if x1 = 13 then (f_Lin_countLineEnd_b19 t0 x1 h0) else (if x1 = 10 then ((fd_I [7] 3 h0 t0).bind fun v1 => if v1 = 0 then (f_Lin_countLineEnd_b19 t0 x1 h0) else (f_Lin_countLineEnd_b29 t0 x1 h0)) else (f_Lin_countLineEnd_b29 t0 x1 h0))
set_option maxRecDepth 100000 in
set_option maxHeartbeats 4000000 in
theorem k_Lin_countLineEnd_b41 {p : Program} {l : Launch} {e : Env} {s : State} {m : MethodId} {args : Array Value} {below : List Frame} {meth : Method} {c : Code} {s0 : State} {A0 : Array Value} {G : Gx_t} {r : Outcome × Hs_t} {rm : Room} (hc : Cx_t p s m meth c s0 A0 l G y_Lin_countLineEnd b_Lin_countLineEnd 2 none []) (hrm : rm_Ok 0 0 0 0 rm) : ∀ (sv0 : Int32) (sv1 : Nat) (h0 : Hs_t) (H : Heap) (locs : List Loc) (ls : Array Slot), Rp_h G s0.heap h0 H → Lo_k s0 locs → lv_has ls 2 [] → f_Lin_countLineEnd_b41 sv0 sv1 h0 = some r → W p l e rm s m args below meth c H locs 0 0 (xq_MQ G s0 below r s rm.cells rm.slots) (F0 m 41 ls [.int sv0, .ref sv1]) := by
  have hx := hc.x
  have hb := hc.b
  obtain ⟨hm1, hm2, hm3, hm4⟩ := id hrm
  intro sv0 sv1 h0 H locs ls hR hLo hl heq
  unfold f_Lin_countLineEnd_b41 at heq
  refine x_pZ hc hR hLo fl_Lin_25 (Or.inl rfl) heq d_Lin_countLineEnd_41 (fun h1 H locs hR hLo heq => ?_)
  exact x_vret hc hR hLo ⟨by omega, by omega⟩ heq d_Lin_countLineEnd_44
set_option maxRecDepth 100000 in
set_option maxHeartbeats 4000000 in
theorem k_Lin_countLineEnd_b29 {p : Program} {l : Launch} {e : Env} {s : State} {m : MethodId} {args : Array Value} {below : List Frame} {meth : Method} {c : Code} {s0 : State} {A0 : Array Value} {G : Gx_t} {r : Outcome × Hs_t} {rm : Room} (hc : Cx_t p s m meth c s0 A0 l G y_Lin_countLineEnd b_Lin_countLineEnd 2 none []) (hrm : rm_Ok 0 0 0 0 rm) : ∀ (t0 : Nat) (x1 : Int32) (h0 : Hs_t) (H : Heap) (locs : List Loc) (ls : Array Slot), Rp_h G s0.heap h0 H → Lo_k s0 locs → lv_has ls 2 [(0, .ref t0), (1, .int x1)] → f_Lin_countLineEnd_b29 t0 x1 h0 = some r → W p l e rm s m args below meth c H locs 0 0 (xq_MQ G s0 below r s rm.cells rm.slots) (F0 m 29 ls []) := by
  have hx := hc.x
  have hb := hc.b
  obtain ⟨hm1, hm2, hm3, hm4⟩ := id hrm
  intro t0 x1 h0 H locs ls hR hLo hl heq
  unfold f_Lin_countLineEnd_b29 at heq
  refine lv_aload_n hx hb d_Lin_countLineEnd_29 rfl (lv_at hl 0 rfl) ?_
  refine lv_iload_n hx hb d_Lin_countLineEnd_30 rfl (lv_at hl 1 rfl) ?_
  refine lv_bipush (v := 13) hx hb d_Lin_countLineEnd_31 (by decide) ?_
  refine lv_icmp_ne (tgt := 40) hx hb d_Lin_countLineEnd_33 rfl (fun hq => ?_) (fun hq => ?_)
  · rw [if_neg hq] at heq
    refine lv_iconst (v := 0) hx hb d_Lin_countLineEnd_40 (by decide) ?_
    refine W.widen (k := 0) (n := 0) (by omega) (by omega) ?_
    exact k_Lin_countLineEnd_b41 hc hrm 0 t0 h0 H locs ls hR hLo (lv_sub hl [] rfl) heq
  · rw [if_pos hq] at heq
    refine lv_iconst (v := 1) hx hb d_Lin_countLineEnd_36 (by decide) ?_
    refine lv_goto (tgt := 41) hx hb d_Lin_countLineEnd_37 rfl ?_
    refine W.widen (k := 0) (n := 0) (by omega) (by omega) ?_
    exact k_Lin_countLineEnd_b41 hc hrm 1 t0 h0 H locs ls hR hLo (lv_sub hl [] rfl) heq
set_option maxRecDepth 100000 in
set_option maxHeartbeats 4000000 in
theorem k_Lin_countLineEnd_b19 {p : Program} {l : Launch} {e : Env} {s : State} {m : MethodId} {args : Array Value} {below : List Frame} {meth : Method} {c : Code} {s0 : State} {A0 : Array Value} {G : Gx_t} {r : Outcome × Hs_t} {rm : Room} (hc : Cx_t p s m meth c s0 A0 l G y_Lin_countLineEnd b_Lin_countLineEnd 2 none []) (hrm : rm_Ok 0 0 0 0 rm) : ∀ (t0 : Nat) (x1 : Int32) (h0 : Hs_t) (H : Heap) (locs : List Loc) (ls : Array Slot), Rp_h G s0.heap h0 H → Lo_k s0 locs → lv_has ls 2 [(0, .ref t0), (1, .int x1)] → f_Lin_countLineEnd_b19 t0 x1 h0 = some r → W p l e rm s m args below meth c H locs 0 0 (xq_MQ G s0 below r s rm.cells rm.slots) (F0 m 19 ls []) := by
  have hx := hc.x
  have hb := hc.b
  obtain ⟨hm1, hm2, hm3, hm4⟩ := id hrm
  intro t0 x1 h0 H locs ls hR hLo hl heq
  unfold f_Lin_countLineEnd_b19 at heq
  refine lv_aload_n hx hb d_Lin_countLineEnd_19 rfl (lv_at hl 0 rfl) ?_
  refine lv_dup hx hb d_Lin_countLineEnd_20 rfl ?_
  refine x_gI hc hR fl_Lin_29 heq d_Lin_countLineEnd_21 (fun v2 heq => ?_)
  refine lv_iconst (v := 1) hx hb d_Lin_countLineEnd_24 (by decide) ?_
  refine lv_iadd hx hb d_Lin_countLineEnd_25 ?_
  refine x_pV hc hR hLo fl_Lin_29 (Or.inl rfl) rfl rfl heq d_Lin_countLineEnd_26 (fun h2 H locs hR hLo heq => ?_)
  refine W.widen (k := 0) (n := 0) (by omega) (by omega) ?_
  exact k_Lin_countLineEnd_b29 hc hrm t0 x1 h2 H locs ls hR hLo (lv_sub hl [0, 1] rfl) heq
set_option maxRecDepth 100000 in
set_option maxHeartbeats 4000000 in
theorem c_Lin_countLineEnd {l : Launch} {s0 : State} {A0 : Array Value} {G : Gx_t} (hG : G_0 l s0 A0 G) (rm : Room) (hrm : rm_Ok 0 0 0 0 rm) (t0 : Nat) (x1 : Int32) (h0 : Hs_t) (r : Outcome × Hs_t) (heq : f_Lin_countLineEnd t0 x1 h0 = some r) : M_X G s0 l y_Lin_countLineEnd (.code y_Lin_countLineEnd b_Lin_countLineEnd 2 none) rm [.ref t0, .int x1] h0 r := by
  refine M_X.of (by decide) hG (fun p e s m below meth c H hc hR => ?_)
  have hx := hc.x
  have hb := hc.b
  obtain ⟨hm1, hm2, hm3, hm4⟩ := id hrm
  have hLo : Lo_k s0 [] := fun _ hq => absurd hq List.not_mem_nil
  have hl := lv_entry ([.ref t0, .int x1]) (n := 2) (Nat.le_of_ble_eq_true rfl)
  rw [lg_entry_eq]
  generalize (lg_sl ([.ref t0, .int x1]) ++ List.replicate (2 - (lg_sl ([.ref t0, .int x1])).length) Slot.unset).toArray = ls at hl ⊢
  have hl : lv_has ls 2 [(0, .ref t0), (1, .int x1)] := hl
  generalize hle : ([] : List Loc) = locs at hLo ⊢
  unfold f_Lin_countLineEnd at heq
  refine lv_iload_n hx hb d_Lin_countLineEnd_0 rfl (lv_at hl 1 rfl) ?_
  refine lv_bipush (v := 13) hx hb d_Lin_countLineEnd_1 (by decide) ?_
  refine lv_icmp_eq (tgt := 19) hx hb d_Lin_countLineEnd_3 rfl (fun hq => ?_) (fun hq => ?_)
  · rw [if_pos hq] at heq
    refine W.widen (k := 0) (n := 0) (by omega) (by omega) ?_
    exact k_Lin_countLineEnd_b19 hc hrm t0 x1 h0 H locs ls hR hLo (lv_sub hl [0, 1] rfl) heq
  · rw [if_neg hq] at heq
    refine lv_iload_n hx hb d_Lin_countLineEnd_6 rfl (lv_at hl 1 rfl) ?_
    refine lv_bipush (v := 10) hx hb d_Lin_countLineEnd_7 (by decide) ?_
    refine lv_icmp_ne (tgt := 29) hx hb d_Lin_countLineEnd_9 rfl (fun hq => ?_) (fun hq => ?_)
    · rw [if_neg hq] at heq
      refine W.widen (k := 0) (n := 0) (by omega) (by omega) ?_
      exact k_Lin_countLineEnd_b29 hc hrm t0 x1 h0 H locs ls hR hLo (lv_sub hl [0, 1] rfl) heq
    · rw [if_pos hq] at heq
      refine lv_aload_n hx hb d_Lin_countLineEnd_12 rfl (lv_at hl 0 rfl) ?_
      refine x_gI hc hR fl_Lin_25 heq d_Lin_countLineEnd_13 (fun v1 heq => ?_)
      refine lv_if_ne (tgt := 29) hx hb d_Lin_countLineEnd_16 rfl (fun hq => ?_) (fun hq => ?_)
      · rw [if_neg hq] at heq
        refine W.widen (k := 0) (n := 0) (by omega) (by omega) ?_
        exact k_Lin_countLineEnd_b29 hc hrm t0 x1 h0 H locs ls hR hLo (lv_sub hl [0, 1] rfl) heq
      · rw [if_pos hq] at heq
        refine W.widen (k := 0) (n := 0) (by omega) (by omega) ?_
        exact k_Lin_countLineEnd_b19 hc hrm t0 x1 h0 H locs ls hR hLo (lv_sub hl [0, 1] rfl) heq
def rm_Lin_countLineEnd : Room := { frames := 0, cells := 0, slots := 0, locals := 0 }
theorem rk_Lin_countLineEnd : rm_Ok 0 0 0 0 rm_Lin_countLineEnd := ⟨Nat.le_refl _, Nat.le_refl _, Nat.le_refl _, Nat.le_refl _⟩
def f_Lin_answer_b15 (w_answer : Nat → Int32 → Nat → Int32 → Hs_t → Rs_t) : Nat → Nat → Nat → Int32 → Int32 → Int32 → Hs_t → Rs_t
  | 0, _, _, _, _, _, _ => none
  | n + 1, t0, x2, x3, x4, x5, h0 => if x4 ≤ x5 then (re_I x4 h0) else ((ar_I h0 x2 (x3 + x5)).bind fun v3 => (ck_T [7] h0 t0).bind fun _ => bd_V (f_Lin_countLineEnd t0 v3 h0) (fun h2 => (f_Lin_answer_b15 w_answer n) t0 x2 x3 x4 (x5 + 1) h2))
def f_Lin_answer (w_answer : Nat → Int32 → Nat → Int32 → Hs_t → Rs_t) (t0 : Nat) (x1 : Int32) (x2 : Nat) (x3 : Int32) (h0 : Hs_t) : Rs_t := (fd_A [7] 0 h0 t0).bind fun v1 => bd_I (w_answer v1 x1 x2 x3 h0) (fun v2 h1 => f_Lin_answer_b15 w_answer fu_N t0 x2 x3 v2 0 h1)
set_option maxRecDepth 100000 in
set_option maxHeartbeats 4000000 in
theorem k_Lin_answer_b15 {p : Program} {l : Launch} {e : Env} {s : State} {m : MethodId} {args : Array Value} {below : List Frame} {meth : Method} {c : Code} {s0 : State} {A0 : Array Value} {G : Gx_t} {r : Outcome × Hs_t} {rm : Room} (FW LW : Nat) (w_answer : Nat → Int32 → Nat → Int32 → Hs_t → Rs_t) (hc : Cx_t p s m meth c s0 A0 l G y_Lin_answer b_Lin_answer 6 (some .int) []) (hrm : rm_Ok 0 0 (FW + 1) (LW + 29) rm) (hw_answer : ∀ (a : Nat) (x1 : Int32) (x2 : Nat) (x3 : Int32) (h : Hs_t) (r0 : Outcome × Hs_t), w_answer a x1 x2 x3 h = some r0 → V_X G s0 l xn_answer { frames := FW, cells := 0, slots := 0, locals := LW } a [.int x1, .ref x2, .int x3] h r0) : ∀ (n : Nat) (t0 : Nat) (x2 : Nat) (x3 : Int32) (x4 : Int32) (x5 : Int32) (h0 : Hs_t) (H : Heap) (locs : List Loc) (ls : Array Slot), Rp_h G s0.heap h0 H → Lo_k s0 locs → lv_has ls 6 [(0, .ref t0), (2, .ref x2), (3, .int x3), (4, .int x4), (5, .int x5)] → f_Lin_answer_b15 w_answer n t0 x2 x3 x4 x5 h0 = some r → W p l e rm s m args below meth c H locs 0 0 (xq_MQ G s0 below r s rm.cells rm.slots) (F0 m 15 ls []) := by
  have hx := hc.x
  have hb := hc.b
  obtain ⟨hm1, hm2, hm3, hm4⟩ := id hrm
  intro n
  induction n with
  | zero =>
    intro t0 x2 x3 x4 x5 h0 H locs ls hR hLo hl heq
    unfold f_Lin_answer_b15 at heq
    cases heq
  | succ n hr15 =>
    intro t0 x2 x3 x4 x5 h0 H locs ls hR hLo hl heq
    unfold f_Lin_answer_b15 at heq
    refine lv_iload hx hb d_Lin_answer_15 (lv_at hl 4 rfl) ?_
    refine lv_iload hx hb d_Lin_answer_17 (lv_at hl 3 rfl) ?_
    refine lv_icmp_ge (tgt := 38) hx hb d_Lin_answer_19 rfl (fun hq => ?_) (fun hq => ?_)
    · rw [if_pos hq] at heq
      refine lv_iload hx hb d_Lin_answer_38 (lv_at hl 3 rfl) ?_
      exact x_iret hc hR hLo ⟨by omega, by omega⟩ heq d_Lin_answer_40
    · rw [if_neg hq] at heq
      refine lv_aload_n hx hb d_Lin_answer_22 rfl (lv_at hl 0 rfl) ?_
      refine lv_aload_n hx hb d_Lin_answer_23 rfl (lv_at hl 1 rfl) ?_
      refine lv_iload_n hx hb d_Lin_answer_24 rfl (lv_at hl 2 rfl) ?_
      refine lv_iload hx hb d_Lin_answer_25 (lv_at hl 4 rfl) ?_
      refine lv_iadd hx hb d_Lin_answer_27 ?_
      refine x_aI hc hR heq d_Lin_answer_28 (fun v3 heq => ?_)
      refine x_ck heq (fun tt fs ha ht heq => ?_)
      obtain rfl : tt = 7 := by simpa using ht
      refine x_bV (mc := 0) (ms := 0) (st := []) hc hLo heq ⟨by omega, by omega⟩ (fun r9 h9 => x_runV hc (c_Lin_countLineEnd hc.g rm_Lin_countLineEnd rk_Lin_countLineEnd _ _ _ _ h9) md_Lin_countLineEnd hR ha rfl wd_470 wd_472 sp_5 hl.1 ml_Lin_countLineEnd rfl (Nat.le_of_ble_eq_true rfl) d_Lin_answer_29 ⟨by show 0 + 1 ≤ _; omega, by show 8 + (2 + 11) + (0) ≤ _; omega⟩ ⟨by show 0 + 0 ≤ _; omega, by show 0 + 0 ≤ _; omega⟩) (fun h2 H locs hR hLo heq => ?_)
      refine lv_iinc (k := 4) (v := (x5 + 1)) (lv' := [(5, .int (x5 + 1)), (0, .ref t0), (2, .ref x2), (3, .int x3), (4, .int x4)]) hx hb d_Lin_answer_32 hl rfl rfl (by decide) rfl (fun ls hl => ?_)
      refine lv_goto (tgt := 15) hx hb d_Lin_answer_35 rfl ?_
      refine W.widen (k := 0) (n := 0) (by omega) (by omega) ?_
      exact hr15 t0 x2 x3 x4 (x5 + 1) h2 H locs ls hR hLo (lv_sub hl [1, 2, 3, 4, 0] rfl) heq
set_option maxRecDepth 100000 in
set_option maxHeartbeats 4000000 in
theorem c_Lin_answer {l : Launch} {s0 : State} {A0 : Array Value} {G : Gx_t} (hG : G_0 l s0 A0 G) (FW LW : Nat) (w_answer : Nat → Int32 → Nat → Int32 → Hs_t → Rs_t) (rm : Room) (hrm : rm_Ok 0 0 (FW + 1) (LW + 29) rm) (hw_answer : ∀ (a : Nat) (x1 : Int32) (x2 : Nat) (x3 : Int32) (h : Hs_t) (r0 : Outcome × Hs_t), w_answer a x1 x2 x3 h = some r0 → V_X G s0 l xn_answer { frames := FW, cells := 0, slots := 0, locals := LW } a [.int x1, .ref x2, .int x3] h r0) (t0 : Nat) (x1 : Int32) (x2 : Nat) (x3 : Int32) (h0 : Hs_t) (r : Outcome × Hs_t) (heq : f_Lin_answer w_answer t0 x1 x2 x3 h0 = some r) : M_X G s0 l y_Lin_answer (.code y_Lin_answer b_Lin_answer 6 (some .int)) rm [.ref t0, .int x1, .ref x2, .int x3] h0 r := by
  refine M_X.of (by decide) hG (fun p e s m below meth c H hc hR => ?_)
  have hx := hc.x
  have hb := hc.b
  obtain ⟨hm1, hm2, hm3, hm4⟩ := id hrm
  have hLo : Lo_k s0 [] := fun _ hq => absurd hq List.not_mem_nil
  have hl := lv_entry ([.ref t0, .int x1, .ref x2, .int x3]) (n := 6) (Nat.le_of_ble_eq_true rfl)
  rw [lg_entry_eq]
  generalize (lg_sl ([.ref t0, .int x1, .ref x2, .int x3]) ++ List.replicate (6 - (lg_sl ([.ref t0, .int x1, .ref x2, .int x3])).length) Slot.unset).toArray = ls at hl ⊢
  have hl : lv_has ls 6 [(0, .ref t0), (1, .int x1), (2, .ref x2), (3, .int x3)] := hl
  generalize hle : ([] : List Loc) = locs at hLo ⊢
  unfold f_Lin_answer at heq
  refine lv_aload_n hx hb d_Lin_answer_0 rfl (lv_at hl 0 rfl) ?_
  refine x_gA hc hR fl_Lin_9 heq d_Lin_answer_1 (fun v1 heq => ?_)
  refine lv_iload_n hx hb d_Lin_answer_4 rfl (lv_at hl 1 rfl) ?_
  refine lv_aload_n hx hb d_Lin_answer_5 rfl (lv_at hl 2 rfl) ?_
  refine lv_iload_n hx hb d_Lin_answer_6 rfl (lv_at hl 3 rfl) ?_
  refine x_bI (mc := 0) (ms := 0) (st := []) hc hLo heq ⟨by omega, by omega⟩ (fun r9 h9 => x_runW hc (hw_answer _ _ _ _ _ _ h9) hR wd_458 wd_445 (Or.inl wd_444) (by decide) hl.1 xl_answer rfl (Nat.le_of_ble_eq_true rfl) d_Lin_answer_7 ⟨by show FW + 0 + 1 ≤ _; omega, by show 8 + (10 + 11) + (LW + 0) ≤ _; omega⟩ ⟨by show 0 + 0 ≤ _; omega, by show 0 + 0 ≤ _; omega⟩) (fun v2 h1 H locs hR hLo heq => ?_)
  refine lv_istore (lv' := [(4, .int v2), (0, .ref t0), (1, .int x1), (2, .ref x2), (3, .int x3)]) hx hb d_Lin_answer_10 hl (by decide) rfl (fun ls hl => ?_)
  refine lv_iconst (v := 0) hx hb d_Lin_answer_12 (by decide) ?_
  refine lv_istore (lv' := [(5, .int 0), (4, .int v2), (0, .ref t0), (1, .int x1), (2, .ref x2), (3, .int x3)]) hx hb d_Lin_answer_13 hl (by decide) rfl (fun ls hl => ?_)
  refine W.widen (k := 0) (n := 0) (by omega) (by omega) ?_
  exact k_Lin_answer_b15 FW LW w_answer hc hrm hw_answer fu_N t0 x2 x3 v2 0 h1 H locs ls hR hLo (lv_sub hl [2, 4, 5, 1, 0] rfl) heq
def f_Lin_state (t0 : Nat) (h0 : Hs_t) : Rs_t := (fd_I [7] 1 h0 t0).bind fun v1 => re_I v1 h0
set_option maxRecDepth 100000 in
set_option maxHeartbeats 4000000 in
theorem c_Lin_state {l : Launch} {s0 : State} {A0 : Array Value} {G : Gx_t} (hG : G_0 l s0 A0 G) (rm : Room) (hrm : rm_Ok 0 0 0 0 rm) (t0 : Nat) (h0 : Hs_t) (r : Outcome × Hs_t) (heq : f_Lin_state t0 h0 = some r) : M_X G s0 l y_Lin_state (.code y_Lin_state b_Lin_state 1 (some .int)) rm [.ref t0] h0 r := by
  refine M_X.of (by decide) hG (fun p e s m below meth c H hc hR => ?_)
  have hx := hc.x
  have hb := hc.b
  obtain ⟨hm1, hm2, hm3, hm4⟩ := id hrm
  have hLo : Lo_k s0 [] := fun _ hq => absurd hq List.not_mem_nil
  have hl := lv_entry ([.ref t0]) (n := 1) (Nat.le_of_ble_eq_true rfl)
  rw [lg_entry_eq]
  generalize (lg_sl ([.ref t0]) ++ List.replicate (1 - (lg_sl ([.ref t0])).length) Slot.unset).toArray = ls at hl ⊢
  have hl : lv_has ls 1 [(0, .ref t0)] := hl
  generalize hle : ([] : List Loc) = locs at hLo ⊢
  unfold f_Lin_state at heq
  refine lv_aload_n hx hb d_Lin_state_0 rfl (lv_at hl 0 rfl) ?_
  refine x_gI hc hR fl_Lin_29 heq d_Lin_state_1 (fun v1 heq => ?_)
  exact x_iret hc hR hLo ⟨by omega, by omega⟩ heq d_Lin_state_4
def rm_Lin_state : Room := { frames := 0, cells := 0, slots := 0, locals := 0 }
theorem rk_Lin_state : rm_Ok 0 0 0 0 rm_Lin_state := ⟨Nat.le_refl _, Nat.le_refl _, Nat.le_refl _, Nat.le_refl _⟩
def f_Lin_remember (t0 : Nat) (h0 : Hs_t) : Rs_t := (fd_I [7] 1 h0 t0).bind fun v1 => (pt_V [7] 2 h0 t0 (.int v1)).bind fun h1 => (fd_I [7] 3 h1 t0).bind fun v2 => (pt_Z [7] 4 h1 t0 v2).bind fun h2 => re_V h2
set_option maxRecDepth 100000 in
set_option maxHeartbeats 4000000 in
theorem c_Lin_remember {l : Launch} {s0 : State} {A0 : Array Value} {G : Gx_t} (hG : G_0 l s0 A0 G) (rm : Room) (hrm : rm_Ok 0 0 0 0 rm) (t0 : Nat) (h0 : Hs_t) (r : Outcome × Hs_t) (heq : f_Lin_remember t0 h0 = some r) : M_X G s0 l y_Lin_remember (.code y_Lin_remember b_Lin_remember 1 none) rm [.ref t0] h0 r := by
  refine M_X.of (by decide) hG (fun p e s m below meth c H hc hR => ?_)
  have hx := hc.x
  have hb := hc.b
  obtain ⟨hm1, hm2, hm3, hm4⟩ := id hrm
  have hLo : Lo_k s0 [] := fun _ hq => absurd hq List.not_mem_nil
  have hl := lv_entry ([.ref t0]) (n := 1) (Nat.le_of_ble_eq_true rfl)
  rw [lg_entry_eq]
  generalize (lg_sl ([.ref t0]) ++ List.replicate (1 - (lg_sl ([.ref t0])).length) Slot.unset).toArray = ls at hl ⊢
  have hl : lv_has ls 1 [(0, .ref t0)] := hl
  generalize hle : ([] : List Loc) = locs at hLo ⊢
  unfold f_Lin_remember at heq
  refine lv_aload_n hx hb d_Lin_remember_0 rfl (lv_at hl 0 rfl) ?_
  refine lv_aload_n hx hb d_Lin_remember_1 rfl (lv_at hl 0 rfl) ?_
  refine x_gI hc hR fl_Lin_29 heq d_Lin_remember_2 (fun v1 heq => ?_)
  refine x_pV hc hR hLo fl_Lin_33 (Or.inl rfl) rfl rfl heq d_Lin_remember_5 (fun h1 H locs hR hLo heq => ?_)
  refine lv_aload_n hx hb d_Lin_remember_8 rfl (lv_at hl 0 rfl) ?_
  refine lv_aload_n hx hb d_Lin_remember_9 rfl (lv_at hl 0 rfl) ?_
  refine x_gI hc hR fl_Lin_25 heq d_Lin_remember_10 (fun v2 heq => ?_)
  refine x_pZ hc hR hLo fl_Lin_36 (Or.inl rfl) heq d_Lin_remember_13 (fun h2 H locs hR hLo heq => ?_)
  exact x_vret hc hR hLo ⟨by omega, by omega⟩ heq d_Lin_remember_16
def rm_Lin_remember : Room := { frames := 0, cells := 0, slots := 0, locals := 0 }
theorem rk_Lin_remember : rm_Ok 0 0 0 0 rm_Lin_remember := ⟨Nat.le_refl _, Nat.le_refl _, Nat.le_refl _, Nat.le_refl _⟩
def f_Lin_recall (t0 : Nat) (h0 : Hs_t) : Rs_t := (fd_I [7] 2 h0 t0).bind fun v1 => (pt_V [7] 1 h0 t0 (.int v1)).bind fun h1 => (fd_I [7] 4 h1 t0).bind fun v2 => (pt_Z [7] 3 h1 t0 v2).bind fun h2 => re_V h2
set_option maxRecDepth 100000 in
set_option maxHeartbeats 4000000 in
theorem c_Lin_recall {l : Launch} {s0 : State} {A0 : Array Value} {G : Gx_t} (hG : G_0 l s0 A0 G) (rm : Room) (hrm : rm_Ok 0 0 0 0 rm) (t0 : Nat) (h0 : Hs_t) (r : Outcome × Hs_t) (heq : f_Lin_recall t0 h0 = some r) : M_X G s0 l y_Lin_recall (.code y_Lin_recall b_Lin_recall 1 none) rm [.ref t0] h0 r := by
  refine M_X.of (by decide) hG (fun p e s m below meth c H hc hR => ?_)
  have hx := hc.x
  have hb := hc.b
  obtain ⟨hm1, hm2, hm3, hm4⟩ := id hrm
  have hLo : Lo_k s0 [] := fun _ hq => absurd hq List.not_mem_nil
  have hl := lv_entry ([.ref t0]) (n := 1) (Nat.le_of_ble_eq_true rfl)
  rw [lg_entry_eq]
  generalize (lg_sl ([.ref t0]) ++ List.replicate (1 - (lg_sl ([.ref t0])).length) Slot.unset).toArray = ls at hl ⊢
  have hl : lv_has ls 1 [(0, .ref t0)] := hl
  generalize hle : ([] : List Loc) = locs at hLo ⊢
  unfold f_Lin_recall at heq
  refine lv_aload_n hx hb d_Lin_recall_0 rfl (lv_at hl 0 rfl) ?_
  refine lv_aload_n hx hb d_Lin_recall_1 rfl (lv_at hl 0 rfl) ?_
  refine x_gI hc hR fl_Lin_33 heq d_Lin_recall_2 (fun v1 heq => ?_)
  refine x_pV hc hR hLo fl_Lin_29 (Or.inl rfl) rfl rfl heq d_Lin_recall_5 (fun h1 H locs hR hLo heq => ?_)
  refine lv_aload_n hx hb d_Lin_recall_8 rfl (lv_at hl 0 rfl) ?_
  refine lv_aload_n hx hb d_Lin_recall_9 rfl (lv_at hl 0 rfl) ?_
  refine x_gI hc hR fl_Lin_36 heq d_Lin_recall_10 (fun v2 heq => ?_)
  refine x_pZ hc hR hLo fl_Lin_25 (Or.inl rfl) heq d_Lin_recall_13 (fun h2 H locs hR hLo heq => ?_)
  exact x_vret hc hR hLo ⟨by omega, by omega⟩ heq d_Lin_recall_16
def rm_Lin_recall : Room := { frames := 0, cells := 0, slots := 0, locals := 0 }
theorem rk_Lin_recall : rm_Ok 0 0 0 0 rm_Lin_recall := ⟨Nat.le_refl _, Nat.le_refl _, Nat.le_refl _, Nat.le_refl _⟩
def f_Pas_ready (w_ready : Nat → Hs_t → Rs_t) (t0 : Nat) (h0 : Hs_t) : Rs_t := (fd_A [5, 6, 7] 0 h0 t0).bind fun v1 => bd_I (w_ready v1 h0) (fun v2 h1 => re_I v2 h1)
set_option maxRecDepth 100000 in
set_option maxHeartbeats 4000000 in
theorem c_Pas_ready {l : Launch} {s0 : State} {A0 : Array Value} {G : Gx_t} (hG : G_0 l s0 A0 G) (FW LW : Nat) (w_ready : Nat → Hs_t → Rs_t) (rm : Room) (hrm : rm_Ok 0 0 (FW + 1) (LW + 29) rm) (hw_ready : ∀ (a : Nat) (h : Hs_t) (r0 : Outcome × Hs_t), w_ready a h = some r0 → V_X G s0 l xn_ready { frames := FW, cells := 0, slots := 0, locals := LW } a [] h r0) (t0 : Nat) (h0 : Hs_t) (r : Outcome × Hs_t) (heq : f_Pas_ready w_ready t0 h0 = some r) : M_X G s0 l y_Pas_ready (.code y_Pas_ready b_Pas_ready 1 (some .int)) rm [.ref t0] h0 r := by
  refine M_X.of (by decide) hG (fun p e s m below meth c H hc hR => ?_)
  have hx := hc.x
  have hb := hc.b
  obtain ⟨hm1, hm2, hm3, hm4⟩ := id hrm
  have hLo : Lo_k s0 [] := fun _ hq => absurd hq List.not_mem_nil
  have hl := lv_entry ([.ref t0]) (n := 1) (Nat.le_of_ble_eq_true rfl)
  rw [lg_entry_eq]
  generalize (lg_sl ([.ref t0]) ++ List.replicate (1 - (lg_sl ([.ref t0])).length) Slot.unset).toArray = ls at hl ⊢
  have hl : lv_has ls 1 [(0, .ref t0)] := hl
  generalize hle : ([] : List Loc) = locs at hLo ⊢
  unfold f_Pas_ready at heq
  refine lv_aload_n hx hb d_Pas_ready_0 rfl (lv_at hl 0 rfl) ?_
  refine x_gA hc hR fl_Pas_7 heq d_Pas_ready_1 (fun v1 heq => ?_)
  refine x_bI (mc := 0) (ms := 0) (st := []) hc hLo heq ⟨by omega, by omega⟩ (fun r9 h9 => x_runW hc (hw_ready _ _ _ h9) hR wd_137 wd_130 (Or.inl wd_129) (by decide) hl.1 xl_ready rfl (Nat.le_of_ble_eq_true rfl) d_Pas_ready_4 ⟨by show FW + 0 + 1 ≤ _; omega, by show 8 + (10 + 11) + (LW + 0) ≤ _; omega⟩ ⟨by show 0 + 0 ≤ _; omega, by show 0 + 0 ≤ _; omega⟩) (fun v2 h1 H locs hR hLo heq => ?_)
  exact x_iret hc hR hLo ⟨by omega, by omega⟩ heq d_Pas_ready_7
def f_Pas_canBeMarked (w_canBeMarked : Nat → Hs_t → Rs_t) (t0 : Nat) (h0 : Hs_t) : Rs_t := (fd_A [5, 6, 7] 0 h0 t0).bind fun v1 => bd_I (w_canBeMarked v1 h0) (fun v2 h1 => re_Z v2 h1)
set_option maxRecDepth 100000 in
set_option maxHeartbeats 4000000 in
theorem c_Pas_canBeMarked {l : Launch} {s0 : State} {A0 : Array Value} {G : Gx_t} (hG : G_0 l s0 A0 G) (FW LW : Nat) (w_canBeMarked : Nat → Hs_t → Rs_t) (rm : Room) (hrm : rm_Ok 0 0 (FW + 1) (LW + 29) rm) (hw_canBeMarked : ∀ (a : Nat) (h : Hs_t) (r0 : Outcome × Hs_t), w_canBeMarked a h = some r0 → V_X G s0 l xn_canBeMarked { frames := FW, cells := 0, slots := 0, locals := LW } a [] h r0) (t0 : Nat) (h0 : Hs_t) (r : Outcome × Hs_t) (heq : f_Pas_canBeMarked w_canBeMarked t0 h0 = some r) : M_X G s0 l y_Pas_canBeMarked (.code y_Pas_canBeMarked b_Pas_canBeMarked 1 (some .boolean)) rm [.ref t0] h0 r := by
  refine M_X.of (by decide) hG (fun p e s m below meth c H hc hR => ?_)
  have hx := hc.x
  have hb := hc.b
  obtain ⟨hm1, hm2, hm3, hm4⟩ := id hrm
  have hLo : Lo_k s0 [] := fun _ hq => absurd hq List.not_mem_nil
  have hl := lv_entry ([.ref t0]) (n := 1) (Nat.le_of_ble_eq_true rfl)
  rw [lg_entry_eq]
  generalize (lg_sl ([.ref t0]) ++ List.replicate (1 - (lg_sl ([.ref t0])).length) Slot.unset).toArray = ls at hl ⊢
  have hl : lv_has ls 1 [(0, .ref t0)] := hl
  generalize hle : ([] : List Loc) = locs at hLo ⊢
  unfold f_Pas_canBeMarked at heq
  refine lv_aload_n hx hb d_Pas_canBeMarked_0 rfl (lv_at hl 0 rfl) ?_
  refine x_gA hc hR fl_Pas_7 heq d_Pas_canBeMarked_1 (fun v1 heq => ?_)
  refine x_bI (mc := 0) (ms := 0) (st := []) hc hLo heq ⟨by omega, by omega⟩ (fun r9 h9 => x_runW hc (hw_canBeMarked _ _ _ h9) hR wd_598 wd_591 (Or.inr ⟨_, _, _, wd_590, wd_603⟩) (by decide) hl.1 xl_canBeMarked rfl (Nat.le_of_ble_eq_true rfl) d_Pas_canBeMarked_4 ⟨by show FW + 0 + 1 ≤ _; omega, by show 8 + (10 + 11) + (LW + 0) ≤ _; omega⟩ ⟨by show 0 + 0 ≤ _; omega, by show 0 + 0 ≤ _; omega⟩) (fun v2 h1 H locs hR hLo heq => ?_)
  exact x_zret hc hR hLo ⟨by omega, by omega⟩ heq d_Pas_canBeMarked_7
def f_Pas_hasMark (w_hasMark : Nat → Hs_t → Rs_t) (t0 : Nat) (h0 : Hs_t) : Rs_t := (fd_A [5, 6, 7] 0 h0 t0).bind fun v1 => bd_I (w_hasMark v1 h0) (fun v2 h1 => re_Z v2 h1)
set_option maxRecDepth 100000 in
set_option maxHeartbeats 4000000 in
theorem c_Pas_hasMark {l : Launch} {s0 : State} {A0 : Array Value} {G : Gx_t} (hG : G_0 l s0 A0 G) (FW LW : Nat) (w_hasMark : Nat → Hs_t → Rs_t) (rm : Room) (hrm : rm_Ok 0 0 (FW + 1) (LW + 29) rm) (hw_hasMark : ∀ (a : Nat) (h : Hs_t) (r0 : Outcome × Hs_t), w_hasMark a h = some r0 → V_X G s0 l xn_hasMark { frames := FW, cells := 0, slots := 0, locals := LW } a [] h r0) (t0 : Nat) (h0 : Hs_t) (r : Outcome × Hs_t) (heq : f_Pas_hasMark w_hasMark t0 h0 = some r) : M_X G s0 l y_Pas_hasMark (.code y_Pas_hasMark b_Pas_hasMark 1 (some .boolean)) rm [.ref t0] h0 r := by
  refine M_X.of (by decide) hG (fun p e s m below meth c H hc hR => ?_)
  have hx := hc.x
  have hb := hc.b
  obtain ⟨hm1, hm2, hm3, hm4⟩ := id hrm
  have hLo : Lo_k s0 [] := fun _ hq => absurd hq List.not_mem_nil
  have hl := lv_entry ([.ref t0]) (n := 1) (Nat.le_of_ble_eq_true rfl)
  rw [lg_entry_eq]
  generalize (lg_sl ([.ref t0]) ++ List.replicate (1 - (lg_sl ([.ref t0])).length) Slot.unset).toArray = ls at hl ⊢
  have hl : lv_has ls 1 [(0, .ref t0)] := hl
  generalize hle : ([] : List Loc) = locs at hLo ⊢
  unfold f_Pas_hasMark at heq
  refine lv_aload_n hx hb d_Pas_hasMark_0 rfl (lv_at hl 0 rfl) ?_
  refine x_gA hc hR fl_Pas_7 heq d_Pas_hasMark_1 (fun v1 heq => ?_)
  refine x_bI (mc := 0) (ms := 0) (st := []) hc hLo heq ⟨by omega, by omega⟩ (fun r9 h9 => x_runW hc (hw_hasMark _ _ _ h9) hR wd_662 wd_655 (Or.inr ⟨_, _, _, wd_654, wd_667⟩) (by decide) hl.1 xl_hasMark rfl (Nat.le_of_ble_eq_true rfl) d_Pas_hasMark_4 ⟨by show FW + 0 + 1 ≤ _; omega, by show 8 + (10 + 11) + (LW + 0) ≤ _; omega⟩ ⟨by show 0 + 0 ≤ _; omega, by show 0 + 0 ≤ _; omega⟩) (fun v2 h1 H locs hR hLo heq => ?_)
  exact x_zret hc hR hLo ⟨by omega, by omega⟩ heq d_Pas_hasMark_7
def v_remember (a : Nat) (h : Hs_t) : Rs_t := match tg_O h a with
    | some t => if t = 5 then f_Lim_remember a h else (if t = 6 then f_Cod_remember a h else (if t = 7 then f_Lin_remember a h else (none)))
    | none => none
set_option maxHeartbeats 4000000 in
theorem vk_remember {l : Launch} {s0 : State} {A0 : Array Value} {G : Gx_t} (hG : G_0 l s0 A0 G) (a : Nat) (h : Hs_t) (r0 : Outcome × Hs_t) (heq : v_remember a h = some r0) : V_X G s0 l xn_remember { frames := 6, cells := 0, slots := 0, locals := 80 } a [] h r0 := by
  unfold v_remember at heq
  cases ht : tg_O h a with
  | none => simp [ht] at heq
  | some t =>
    simp only [ht] at heq
    obtain ⟨fs, hx⟩ := tg_O_spec ht
    by_cases h5 : t = 5
    · subst h5
      rw [if_pos rfl] at heq
      exact ⟨5, _, fs, _, _, y_Lim_remember, _, 1, hx, rfl, ⟨md_Lim_remember, wd_636, wd_635⟩, by decide, c_Lim_remember hG _ ⟨Nat.le_refl _, Nat.le_refl _, by show 0 ≤ 6; omega, by show 0 ≤ 80; omega⟩ _ _ _ heq⟩
    rw [if_neg h5] at heq
    by_cases h6 : t = 6
    · subst h6
      rw [if_pos rfl] at heq
      exact ⟨6, _, fs, _, _, y_Cod_remember, _, 1, hx, rfl, ⟨md_Cod_remember, wd_633, wd_632⟩, by decide, c_Cod_remember hG _ ⟨Nat.le_refl _, Nat.le_refl _, by show 0 ≤ 6; omega, by show 0 ≤ 80; omega⟩ _ _ _ heq⟩
    rw [if_neg h6] at heq
    by_cases h7 : t = 7
    · subst h7
      rw [if_pos rfl] at heq
      exact ⟨7, _, fs, _, _, y_Lin_remember, _, 1, hx, rfl, ⟨md_Lin_remember, wd_639, wd_638⟩, by decide, c_Lin_remember hG _ ⟨Nat.le_refl _, Nat.le_refl _, by show 0 ≤ 6; omega, by show 0 ≤ 80; omega⟩ _ _ _ heq⟩
    rw [if_neg h7] at heq
    cases heq
def f_Pas_takeMark (w_takeMark : Nat → Int32 → Hs_t → Rs_t) (t0 : Nat) (x1 : Int32) (h0 : Hs_t) : Rs_t := (fd_A [5, 6, 7] 0 h0 t0).bind fun v1 => bd_V (w_takeMark v1 x1 h0) (fun h1 => bd_V (v_remember t0 h1) (fun h2 => re_V h2))
set_option maxRecDepth 100000 in
set_option maxHeartbeats 4000000 in
theorem c_Pas_takeMark {l : Launch} {s0 : State} {A0 : Array Value} {G : Gx_t} (hG : G_0 l s0 A0 G) (FW LW : Nat) (w_takeMark : Nat → Int32 → Hs_t → Rs_t) (rm : Room) (hrm : rm_Ok 0 0 (FW + 7) (LW + 109) rm) (hw_takeMark : ∀ (a : Nat) (x1 : Int32) (h : Hs_t) (r0 : Outcome × Hs_t), w_takeMark a x1 h = some r0 → V_X G s0 l xn_takeMark { frames := FW, cells := 0, slots := 0, locals := LW } a [.int x1] h r0) (t0 : Nat) (x1 : Int32) (h0 : Hs_t) (r : Outcome × Hs_t) (heq : f_Pas_takeMark w_takeMark t0 x1 h0 = some r) : M_X G s0 l y_Pas_takeMark (.code y_Pas_takeMark b_Pas_takeMark 2 none) rm [.ref t0, .int x1] h0 r := by
  refine M_X.of (by decide) hG (fun p e s m below meth c H hc hR => ?_)
  have hx := hc.x
  have hb := hc.b
  obtain ⟨hm1, hm2, hm3, hm4⟩ := id hrm
  have hLo : Lo_k s0 [] := fun _ hq => absurd hq List.not_mem_nil
  have hl := lv_entry ([.ref t0, .int x1]) (n := 2) (Nat.le_of_ble_eq_true rfl)
  rw [lg_entry_eq]
  generalize (lg_sl ([.ref t0, .int x1]) ++ List.replicate (2 - (lg_sl ([.ref t0, .int x1])).length) Slot.unset).toArray = ls at hl ⊢
  have hl : lv_has ls 2 [(0, .ref t0), (1, .int x1)] := hl
  generalize hle : ([] : List Loc) = locs at hLo ⊢
  unfold f_Pas_takeMark at heq
  refine lv_aload_n hx hb d_Pas_takeMark_0 rfl (lv_at hl 0 rfl) ?_
  refine x_gA hc hR fl_Pas_7 heq d_Pas_takeMark_1 (fun v1 heq => ?_)
  refine lv_iload_n hx hb d_Pas_takeMark_4 rfl (lv_at hl 1 rfl) ?_
  refine x_bV (mc := 0) (ms := 0) (st := []) hc hLo heq ⟨by omega, by omega⟩ (fun r9 h9 => x_runW hc (hw_takeMark _ _ _ _ h9) hR wd_628 wd_621 (Or.inr ⟨_, _, _, wd_620, wd_645⟩) (by decide) hl.1 xl_takeMark rfl (Nat.le_of_ble_eq_true rfl) d_Pas_takeMark_5 ⟨by show FW + 0 + 1 ≤ _; omega, by show 8 + (10 + 11) + (LW + 0) ≤ _; omega⟩ ⟨by show 0 + 0 ≤ _; omega, by show 0 + 0 ≤ _; omega⟩) (fun h1 H locs hR hLo heq => ?_)
  refine lv_aload_n hx hb d_Pas_takeMark_8 rfl (lv_at hl 0 rfl) ?_
  refine x_bV (mc := 0) (ms := 0) (st := []) hc hLo heq ⟨by omega, by omega⟩ (fun r9 h9 => x_runW hc (vk_remember hc.g _ _ _ h9) hR wd_629 wd_631 (Or.inl wd_630) (by decide) hl.1 xl_remember rfl (Nat.le_of_ble_eq_true rfl) d_Pas_takeMark_9 ⟨by show 6 + 1 ≤ _; omega, by show 8 + (10 + 11) + (80) ≤ _; omega⟩ ⟨by show 0 + 0 ≤ _; omega, by show 0 + 0 ≤ _; omega⟩) (fun h2 H locs hR hLo heq => ?_)
  exact x_vret hc hR hLo ⟨by omega, by omega⟩ heq d_Pas_takeMark_12
def v_recall (a : Nat) (h : Hs_t) : Rs_t := match tg_O h a with
    | some t => if t = 5 then f_Lim_recall a h else (if t = 6 then f_Cod_recall a h else (if t = 7 then f_Lin_recall a h else (none)))
    | none => none
set_option maxHeartbeats 4000000 in
theorem vk_recall {l : Launch} {s0 : State} {A0 : Array Value} {G : Gx_t} (hG : G_0 l s0 A0 G) (a : Nat) (h : Hs_t) (r0 : Outcome × Hs_t) (heq : v_recall a h = some r0) : V_X G s0 l xn_recall { frames := 6, cells := 0, slots := 0, locals := 80 } a [] h r0 := by
  unfold v_recall at heq
  cases ht : tg_O h a with
  | none => simp [ht] at heq
  | some t =>
    simp only [ht] at heq
    obtain ⟨fs, hx⟩ := tg_O_spec ht
    by_cases h5 : t = 5
    · subst h5
      rw [if_pos rfl] at heq
      exact ⟨5, _, fs, _, _, y_Lim_recall, _, 1, hx, rfl, ⟨md_Lim_recall, wd_685, wd_684⟩, by decide, c_Lim_recall hG _ ⟨Nat.le_refl _, Nat.le_refl _, by show 0 ≤ 6; omega, by show 0 ≤ 80; omega⟩ _ _ _ heq⟩
    rw [if_neg h5] at heq
    by_cases h6 : t = 6
    · subst h6
      rw [if_pos rfl] at heq
      exact ⟨6, _, fs, _, _, y_Cod_recall, _, 1, hx, rfl, ⟨md_Cod_recall, wd_682, wd_681⟩, by decide, c_Cod_recall hG _ ⟨Nat.le_refl _, Nat.le_refl _, by show 0 ≤ 6; omega, by show 0 ≤ 80; omega⟩ _ _ _ heq⟩
    rw [if_neg h6] at heq
    by_cases h7 : t = 7
    · subst h7
      rw [if_pos rfl] at heq
      exact ⟨7, _, fs, _, _, y_Lin_recall, _, 1, hx, rfl, ⟨md_Lin_recall, wd_688, wd_687⟩, by decide, c_Lin_recall hG _ ⟨Nat.le_refl _, Nat.le_refl _, by show 0 ≤ 6; omega, by show 0 ≤ 80; omega⟩ _ _ _ heq⟩
    rw [if_neg h7] at heq
    cases heq
def f_Pas_goBack (w_goBack : Nat → Hs_t → Rs_t) (t0 : Nat) (h0 : Hs_t) : Rs_t := (fd_A [5, 6, 7] 0 h0 t0).bind fun v1 => bd_V (w_goBack v1 h0) (fun h1 => bd_V (v_recall t0 h1) (fun h2 => re_V h2))
set_option maxRecDepth 100000 in
set_option maxHeartbeats 4000000 in
theorem c_Pas_goBack {l : Launch} {s0 : State} {A0 : Array Value} {G : Gx_t} (hG : G_0 l s0 A0 G) (FW LW : Nat) (w_goBack : Nat → Hs_t → Rs_t) (rm : Room) (hrm : rm_Ok 0 0 (FW + 7) (LW + 109) rm) (hw_goBack : ∀ (a : Nat) (h : Hs_t) (r0 : Outcome × Hs_t), w_goBack a h = some r0 → V_X G s0 l xn_goBack { frames := FW, cells := 0, slots := 0, locals := LW } a [] h r0) (t0 : Nat) (h0 : Hs_t) (r : Outcome × Hs_t) (heq : f_Pas_goBack w_goBack t0 h0 = some r) : M_X G s0 l y_Pas_goBack (.code y_Pas_goBack b_Pas_goBack 1 none) rm [.ref t0] h0 r := by
  refine M_X.of (by decide) hG (fun p e s m below meth c H hc hR => ?_)
  have hx := hc.x
  have hb := hc.b
  obtain ⟨hm1, hm2, hm3, hm4⟩ := id hrm
  have hLo : Lo_k s0 [] := fun _ hq => absurd hq List.not_mem_nil
  have hl := lv_entry ([.ref t0]) (n := 1) (Nat.le_of_ble_eq_true rfl)
  rw [lg_entry_eq]
  generalize (lg_sl ([.ref t0]) ++ List.replicate (1 - (lg_sl ([.ref t0])).length) Slot.unset).toArray = ls at hl ⊢
  have hl : lv_has ls 1 [(0, .ref t0)] := hl
  generalize hle : ([] : List Loc) = locs at hLo ⊢
  unfold f_Pas_goBack at heq
  refine lv_aload_n hx hb d_Pas_goBack_0 rfl (lv_at hl 0 rfl) ?_
  refine x_gA hc hR fl_Pas_7 heq d_Pas_goBack_1 (fun v1 heq => ?_)
  refine x_bV (mc := 0) (ms := 0) (st := []) hc hLo heq ⟨by omega, by omega⟩ (fun r9 h9 => x_runW hc (hw_goBack _ _ _ h9) hR wd_677 wd_670 (Or.inr ⟨_, _, _, wd_669, wd_694⟩) (by decide) hl.1 xl_goBack rfl (Nat.le_of_ble_eq_true rfl) d_Pas_goBack_4 ⟨by show FW + 0 + 1 ≤ _; omega, by show 8 + (10 + 11) + (LW + 0) ≤ _; omega⟩ ⟨by show 0 + 0 ≤ _; omega, by show 0 + 0 ≤ _; omega⟩) (fun h1 H locs hR hLo heq => ?_)
  refine lv_aload_n hx hb d_Pas_goBack_7 rfl (lv_at hl 0 rfl) ?_
  refine x_bV (mc := 0) (ms := 0) (st := []) hc hLo heq ⟨by omega, by omega⟩ (fun r9 h9 => x_runW hc (vk_recall hc.g _ _ _ h9) hR wd_678 wd_680 (Or.inl wd_679) (by decide) hl.1 xl_recall rfl (Nat.le_of_ble_eq_true rfl) d_Pas_goBack_8 ⟨by show 6 + 1 ≤ _; omega, by show 8 + (10 + 11) + (80) ≤ _; omega⟩ ⟨by show 0 + 0 ≤ _; omega, by show 0 + 0 ≤ _; omega⟩) (fun h2 H locs hR hLo heq => ?_)
  exact x_vret hc hR hLo ⟨by omega, by omega⟩ heq d_Pas_goBack_11
def f_Psh_init (t0 : Nat) (x1 : Nat) (x2 : Int32) (h0 : Hs_t) : Rs_t := bd_V (f_Str_init t0 h0) (fun h1 => (pt_V [4] 0 h1 t0 (.ref x1)).bind fun h2 => (nw_I 8 x2 h2).bind fun h3 => (pt_V [4] 1 h3 t0 (.ref h2.1)).bind fun h4 => re_V h4)
set_option maxRecDepth 100000 in
set_option maxHeartbeats 4000000 in
theorem c_Psh_init {l : Launch} {s0 : State} {A0 : Array Value} {G : Gx_t} (hG : G_0 l s0 A0 G) (rm : Room) (hrm : rm_Ok 1 8 2 32 rm) (t0 : Nat) (x1 : Nat) (x2 : Int32) (h0 : Hs_t) (r : Outcome × Hs_t) (heq : f_Psh_init t0 x1 x2 h0 = some r) : M_X G s0 l y_Psh_init (.code y_Psh_init b_Psh_init 3 none) rm [.ref t0, .ref x1, .int x2] h0 r := by
  refine M_X.of (by decide) hG (fun p e s m below meth c H hc hR => ?_)
  have hx := hc.x
  have hb := hc.b
  obtain ⟨hm1, hm2, hm3, hm4⟩ := id hrm
  have hLo : Lo_k s0 [] := fun _ hq => absurd hq List.not_mem_nil
  have hl := lv_entry ([.ref t0, .ref x1, .int x2]) (n := 3) (Nat.le_of_ble_eq_true rfl)
  rw [lg_entry_eq]
  generalize (lg_sl ([.ref t0, .ref x1, .int x2]) ++ List.replicate (3 - (lg_sl ([.ref t0, .ref x1, .int x2])).length) Slot.unset).toArray = ls at hl ⊢
  have hl : lv_has ls 3 [(0, .ref t0), (1, .ref x1), (2, .int x2)] := hl
  generalize hle : ([] : List Loc) = locs at hLo ⊢
  unfold f_Psh_init at heq
  refine lv_aload_n hx hb d_Psh_init_0 rfl (lv_at hl 0 rfl) ?_
  refine x_bV (mc := 0) (ms := 0) (st := []) hc hLo heq ⟨by omega, by omega⟩ (fun r9 h9 => x_runIN hc (c_Str_init hc.g rm_Str_init rk_Str_init _ _ _ h9) md_Str_init hR wd_347 wd_35 rfl ⟨_, rfl⟩ hl.1 ml_Str_init rfl (Nat.le_of_ble_eq_true rfl) d_Psh_init_1 ⟨by show 1 + 1 ≤ _; omega, by show 8 + (1 + 11) + (12) ≤ _; omega⟩ ⟨by show 0 + 0 ≤ _; omega, by show 0 + 0 ≤ _; omega⟩) (fun h1 H locs hR hLo heq => ?_)
  refine lv_aload_n hx hb d_Psh_init_4 rfl (lv_at hl 0 rfl) ?_
  refine lv_aload_n hx hb d_Psh_init_5 rfl (lv_at hl 1 rfl) ?_
  refine x_pV hc hR hLo fl_Psh_7 (Or.inr ⟨rfl, rfl⟩) rfl rfl heq d_Psh_init_6 (fun h2 H locs hR hLo heq => ?_)
  refine lv_aload_n hx hb d_Psh_init_9 rfl (lv_at hl 0 rfl) ?_
  refine lv_iload_n hx hb d_Psh_init_10 rfl (lv_at hl 2 rfl) ?_
  refine x_newI hc hR wd_55 (by decide) ⟨by omega, by omega⟩ heq d_Psh_init_11 (fun h3 H hR heq => ?_)
  refine x_pV hc hR hLo fl_Psh_13 (Or.inr ⟨rfl, rfl⟩) rfl rfl heq d_Psh_init_13 (fun h4 H locs hR hLo heq => ?_)
  exact x_vret hc hR hLo ⟨by omega, by omega⟩ heq d_Psh_init_16
def rm_Psh_init : Room := { frames := 2, cells := 1, slots := 8, locals := 32 }
theorem rk_Psh_init : rm_Ok 1 8 2 32 rm_Psh_init := ⟨Nat.le_refl _, Nat.le_refl _, Nat.le_refl _, Nat.le_refl _⟩
def f_Psh_putBack (t0 : Nat) (x1 : Int32) (h0 : Hs_t) : Rs_t := (fd_I [4] 2 h0 t0).bind fun v1 => (fd_A [4] 1 h0 t0).bind fun v2 => (ln_A h0 v2).bind fun v3 => if v1 < v3 then ((fd_A [4] 1 h0 t0).bind fun v4 => (fd_I [4] 2 h0 t0).bind fun v5 => (as_I h0 v4 v5 x1).bind fun h1 => (fd_I [4] 2 h1 t0).bind fun v6 => (pt_V [4] 2 h1 t0 (.int (v6 + 1))).bind fun h2 => re_Z 1 h2) else (re_Z 0 h0)
set_option maxRecDepth 100000 in
set_option maxHeartbeats 4000000 in
theorem c_Psh_putBack {l : Launch} {s0 : State} {A0 : Array Value} {G : Gx_t} (hG : G_0 l s0 A0 G) (rm : Room) (hrm : rm_Ok 0 0 0 0 rm) (t0 : Nat) (x1 : Int32) (h0 : Hs_t) (r : Outcome × Hs_t) (heq : f_Psh_putBack t0 x1 h0 = some r) : M_X G s0 l y_Psh_putBack (.code y_Psh_putBack b_Psh_putBack 2 (some .boolean)) rm [.ref t0, .int x1] h0 r := by
  refine M_X.of (by decide) hG (fun p e s m below meth c H hc hR => ?_)
  have hx := hc.x
  have hb := hc.b
  obtain ⟨hm1, hm2, hm3, hm4⟩ := id hrm
  have hLo : Lo_k s0 [] := fun _ hq => absurd hq List.not_mem_nil
  have hl := lv_entry ([.ref t0, .int x1]) (n := 2) (Nat.le_of_ble_eq_true rfl)
  rw [lg_entry_eq]
  generalize (lg_sl ([.ref t0, .int x1]) ++ List.replicate (2 - (lg_sl ([.ref t0, .int x1])).length) Slot.unset).toArray = ls at hl ⊢
  have hl : lv_has ls 2 [(0, .ref t0), (1, .int x1)] := hl
  generalize hle : ([] : List Loc) = locs at hLo ⊢
  unfold f_Psh_putBack at heq
  refine lv_aload_n hx hb d_Psh_putBack_0 rfl (lv_at hl 0 rfl) ?_
  refine x_gI hc hR fl_Psh_17 heq d_Psh_putBack_1 (fun v1 heq => ?_)
  refine lv_aload_n hx hb d_Psh_putBack_4 rfl (lv_at hl 0 rfl) ?_
  refine x_gA hc hR fl_Psh_13 heq d_Psh_putBack_5 (fun v2 heq => ?_)
  refine x_len hc hR heq d_Psh_putBack_8 (fun v3 heq => ?_)
  refine lv_icmp_lt (tgt := 14) hx hb d_Psh_putBack_9 rfl (fun hq => ?_) (fun hq => ?_)
  · rw [if_pos hq] at heq
    refine lv_aload_n hx hb d_Psh_putBack_14 rfl (lv_at hl 0 rfl) ?_
    refine x_gA hc hR fl_Psh_13 heq d_Psh_putBack_15 (fun v4 heq => ?_)
    refine lv_aload_n hx hb d_Psh_putBack_18 rfl (lv_at hl 0 rfl) ?_
    refine x_gI hc hR fl_Psh_17 heq d_Psh_putBack_19 (fun v5 heq => ?_)
    refine lv_iload_n hx hb d_Psh_putBack_22 rfl (lv_at hl 1 rfl) ?_
    refine x_sI hc hR hLo heq d_Psh_putBack_23 (fun h1 H locs hR hLo heq => ?_)
    refine lv_aload_n hx hb d_Psh_putBack_24 rfl (lv_at hl 0 rfl) ?_
    refine lv_dup hx hb d_Psh_putBack_25 rfl ?_
    refine x_gI hc hR fl_Psh_17 heq d_Psh_putBack_26 (fun v6 heq => ?_)
    refine lv_iconst (v := 1) hx hb d_Psh_putBack_29 (by decide) ?_
    refine lv_iadd hx hb d_Psh_putBack_30 ?_
    refine x_pV hc hR hLo fl_Psh_17 (Or.inl rfl) rfl rfl heq d_Psh_putBack_31 (fun h2 H locs hR hLo heq => ?_)
    refine lv_iconst (v := 1) hx hb d_Psh_putBack_34 (by decide) ?_
    exact x_zret hc hR hLo ⟨by omega, by omega⟩ heq d_Psh_putBack_35
  · rw [if_neg hq] at heq
    refine lv_iconst (v := 0) hx hb d_Psh_putBack_12 (by decide) ?_
    exact x_zret hc hR hLo ⟨by omega, by omega⟩ heq d_Psh_putBack_13
def rm_Psh_putBack : Room := { frames := 0, cells := 0, slots := 0, locals := 0 }
theorem rk_Psh_putBack : rm_Ok 0 0 0 0 rm_Psh_putBack := ⟨Nat.le_refl _, Nat.le_refl _, Nat.le_refl _, Nat.le_refl _⟩
def f_Psh_answer_b31 (w_answer : Nat → Int32 → Nat → Int32 → Hs_t → Rs_t) : Nat → Nat → Nat → Int32 → Int32 → Int32 → Hs_t → Rs_t
  | 0, _, _, _, _, _, _ => none
  | n + 1, t0, x2, x3, x4, x5, h0 => if x4 ≤ x5 then (re_I x4 h0) else ((fd_I [4] 2 h0 t0).bind fun v5 => (pt_V [4] 2 h0 t0 (.int (v5 - 1))).bind fun h2 => (fd_A [4] 1 h2 t0).bind fun v6 => (fd_I [4] 2 h2 t0).bind fun v7 => (ar_I h2 v6 v7).bind fun v8 => (as_I h2 x2 (x3 + x5) v8).bind fun h3 => (f_Psh_answer_b31 w_answer n) t0 x2 x3 x4 (x5 + 1) h3)
def f_Psh_answer (w_answer : Nat → Int32 → Nat → Int32 → Hs_t → Rs_t) (t0 : Nat) (x1 : Int32) (x2 : Nat) (x3 : Int32) (h0 : Hs_t) : Rs_t := (fd_I [4] 2 h0 t0).bind fun v1 => if v1 = 0 then ((fd_A [4] 0 h0 t0).bind fun v3 => bd_I (w_answer v3 x1 x2 x3 h0) (fun v4 h1 => re_I v4 h1)) else ((fd_I [4] 2 h0 t0).bind fun v2 => f_Psh_answer_b31 w_answer fu_N t0 x2 x3 (if v2 < x1 then v2 else x1) 0 h0)
set_option maxRecDepth 100000 in
set_option maxHeartbeats 4000000 in
theorem k_Psh_answer_b31 {p : Program} {l : Launch} {e : Env} {s : State} {m : MethodId} {args : Array Value} {below : List Frame} {meth : Method} {c : Code} {s0 : State} {A0 : Array Value} {G : Gx_t} {r : Outcome × Hs_t} {rm : Room} (FW LW : Nat) (w_answer : Nat → Int32 → Nat → Int32 → Hs_t → Rs_t) (hc : Cx_t p s m meth c s0 A0 l G y_Psh_answer b_Psh_answer 6 (some .int) []) (hrm : rm_Ok 0 0 (FW + 1) (LW + 29) rm) (hw_answer : ∀ (a : Nat) (x1 : Int32) (x2 : Nat) (x3 : Int32) (h : Hs_t) (r0 : Outcome × Hs_t), w_answer a x1 x2 x3 h = some r0 → V_X G s0 l xn_answer { frames := FW, cells := 0, slots := 0, locals := LW } a [.int x1, .ref x2, .int x3] h r0) : ∀ (n : Nat) (t0 : Nat) (x2 : Nat) (x3 : Int32) (x4 : Int32) (x5 : Int32) (h0 : Hs_t) (H : Heap) (locs : List Loc) (ls : Array Slot), Rp_h G s0.heap h0 H → Lo_k s0 locs → lv_has ls 6 [(0, .ref t0), (2, .ref x2), (3, .int x3), (4, .int x4), (5, .int x5)] → f_Psh_answer_b31 w_answer n t0 x2 x3 x4 x5 h0 = some r → W p l e rm s m args below meth c H locs 0 0 (xq_MQ G s0 below r s rm.cells rm.slots) (F0 m 31 ls []) := by
  have hx := hc.x
  have hb := hc.b
  obtain ⟨hm1, hm2, hm3, hm4⟩ := id hrm
  intro n
  induction n with
  | zero =>
    intro t0 x2 x3 x4 x5 h0 H locs ls hR hLo hl heq
    unfold f_Psh_answer_b31 at heq
    cases heq
  | succ n hr31 =>
    intro t0 x2 x3 x4 x5 h0 H locs ls hR hLo hl heq
    unfold f_Psh_answer_b31 at heq
    refine lv_iload hx hb d_Psh_answer_31 (lv_at hl 4 rfl) ?_
    refine lv_iload hx hb d_Psh_answer_33 (lv_at hl 3 rfl) ?_
    refine lv_icmp_ge (tgt := 69) hx hb d_Psh_answer_35 rfl (fun hq => ?_) (fun hq => ?_)
    · rw [if_pos hq] at heq
      refine lv_iload hx hb d_Psh_answer_69 (lv_at hl 3 rfl) ?_
      exact x_iret hc hR hLo ⟨by omega, by omega⟩ heq d_Psh_answer_71
    · rw [if_neg hq] at heq
      refine lv_aload_n hx hb d_Psh_answer_38 rfl (lv_at hl 0 rfl) ?_
      refine lv_dup hx hb d_Psh_answer_39 rfl ?_
      refine x_gI hc hR fl_Psh_17 heq d_Psh_answer_40 (fun v5 heq => ?_)
      refine lv_iconst (v := 1) hx hb d_Psh_answer_43 (by decide) ?_
      refine lv_isub hx hb d_Psh_answer_44 ?_
      refine x_pV hc hR hLo fl_Psh_17 (Or.inl rfl) rfl rfl heq d_Psh_answer_45 (fun h2 H locs hR hLo heq => ?_)
      refine lv_aload_n hx hb d_Psh_answer_48 rfl (lv_at hl 1 rfl) ?_
      refine lv_iload_n hx hb d_Psh_answer_49 rfl (lv_at hl 2 rfl) ?_
      refine lv_iload hx hb d_Psh_answer_50 (lv_at hl 4 rfl) ?_
      refine lv_iadd hx hb d_Psh_answer_52 ?_
      refine lv_aload_n hx hb d_Psh_answer_53 rfl (lv_at hl 0 rfl) ?_
      refine x_gA hc hR fl_Psh_13 heq d_Psh_answer_54 (fun v6 heq => ?_)
      refine lv_aload_n hx hb d_Psh_answer_57 rfl (lv_at hl 0 rfl) ?_
      refine x_gI hc hR fl_Psh_17 heq d_Psh_answer_58 (fun v7 heq => ?_)
      refine x_aI hc hR heq d_Psh_answer_61 (fun v8 heq => ?_)
      refine x_sI hc hR hLo heq d_Psh_answer_62 (fun h3 H locs hR hLo heq => ?_)
      refine lv_iinc (k := 4) (v := (x5 + 1)) (lv' := [(5, .int (x5 + 1)), (0, .ref t0), (2, .ref x2), (3, .int x3), (4, .int x4)]) hx hb d_Psh_answer_63 hl rfl rfl (by decide) rfl (fun ls hl => ?_)
      refine lv_goto (tgt := 31) hx hb d_Psh_answer_66 rfl ?_
      refine W.widen (k := 0) (n := 0) (by omega) (by omega) ?_
      exact hr31 t0 x2 x3 x4 (x5 + 1) h3 H locs ls hR hLo (lv_sub hl [1, 2, 3, 4, 0] rfl) heq
set_option maxRecDepth 100000 in
set_option maxHeartbeats 4000000 in
theorem c_Psh_answer {l : Launch} {s0 : State} {A0 : Array Value} {G : Gx_t} (hG : G_0 l s0 A0 G) (FW LW : Nat) (w_answer : Nat → Int32 → Nat → Int32 → Hs_t → Rs_t) (rm : Room) (hrm : rm_Ok 0 0 (FW + 1) (LW + 29) rm) (hw_answer : ∀ (a : Nat) (x1 : Int32) (x2 : Nat) (x3 : Int32) (h : Hs_t) (r0 : Outcome × Hs_t), w_answer a x1 x2 x3 h = some r0 → V_X G s0 l xn_answer { frames := FW, cells := 0, slots := 0, locals := LW } a [.int x1, .ref x2, .int x3] h r0) (t0 : Nat) (x1 : Int32) (x2 : Nat) (x3 : Int32) (h0 : Hs_t) (r : Outcome × Hs_t) (heq : f_Psh_answer w_answer t0 x1 x2 x3 h0 = some r) : M_X G s0 l y_Psh_answer (.code y_Psh_answer b_Psh_answer 6 (some .int)) rm [.ref t0, .int x1, .ref x2, .int x3] h0 r := by
  refine M_X.of (by decide) hG (fun p e s m below meth c H hc hR => ?_)
  have hx := hc.x
  have hb := hc.b
  obtain ⟨hm1, hm2, hm3, hm4⟩ := id hrm
  have hLo : Lo_k s0 [] := fun _ hq => absurd hq List.not_mem_nil
  have hl := lv_entry ([.ref t0, .int x1, .ref x2, .int x3]) (n := 6) (Nat.le_of_ble_eq_true rfl)
  rw [lg_entry_eq]
  generalize (lg_sl ([.ref t0, .int x1, .ref x2, .int x3]) ++ List.replicate (6 - (lg_sl ([.ref t0, .int x1, .ref x2, .int x3])).length) Slot.unset).toArray = ls at hl ⊢
  have hl : lv_has ls 6 [(0, .ref t0), (1, .int x1), (2, .ref x2), (3, .int x3)] := hl
  generalize hle : ([] : List Loc) = locs at hLo ⊢
  unfold f_Psh_answer at heq
  refine lv_aload_n hx hb d_Psh_answer_0 rfl (lv_at hl 0 rfl) ?_
  refine x_gI hc hR fl_Psh_17 heq d_Psh_answer_1 (fun v1 heq => ?_)
  refine lv_if_ne (tgt := 18) hx hb d_Psh_answer_4 rfl (fun hq => ?_) (fun hq => ?_)
  · rw [if_neg hq] at heq
    refine lv_iload_n hx hb d_Psh_answer_18 rfl (lv_at hl 1 rfl) ?_
    refine lv_aload_n hx hb d_Psh_answer_19 rfl (lv_at hl 0 rfl) ?_
    refine x_gI hc hR fl_Psh_17 heq d_Psh_answer_20 (fun v2 heq => ?_)
    refine x_min hc hl.1 wd_469 wd_147 wd_17 wd_148 (by omega) (by show 0 + 13 ≤ _; omega) ⟨by omega, by omega⟩ d_Psh_answer_23 ?_
    refine lv_istore (lv' := [(4, .int (if v2 < x1 then v2 else x1)), (0, .ref t0), (1, .int x1), (2, .ref x2), (3, .int x3)]) hx hb d_Psh_answer_26 hl (by decide) rfl (fun ls hl => ?_)
    refine lv_iconst (v := 0) hx hb d_Psh_answer_28 (by decide) ?_
    refine lv_istore (lv' := [(5, .int 0), (4, .int (if v2 < x1 then v2 else x1)), (0, .ref t0), (1, .int x1), (2, .ref x2), (3, .int x3)]) hx hb d_Psh_answer_29 hl (by decide) rfl (fun ls hl => ?_)
    refine W.widen (k := 0) (n := 0) (by omega) (by omega) ?_
    exact k_Psh_answer_b31 FW LW w_answer hc hrm hw_answer fu_N t0 x2 x3 (if v2 < x1 then v2 else x1) 0 h0 H locs ls hR hLo (lv_sub hl [2, 4, 5, 1, 0] rfl) heq
  · rw [if_pos hq] at heq
    refine lv_aload_n hx hb d_Psh_answer_7 rfl (lv_at hl 0 rfl) ?_
    refine x_gA hc hR fl_Psh_7 heq d_Psh_answer_8 (fun v3 heq => ?_)
    refine lv_iload_n hx hb d_Psh_answer_11 rfl (lv_at hl 1 rfl) ?_
    refine lv_aload_n hx hb d_Psh_answer_12 rfl (lv_at hl 2 rfl) ?_
    refine lv_iload_n hx hb d_Psh_answer_13 rfl (lv_at hl 3 rfl) ?_
    refine x_bI (mc := 0) (ms := 0) (st := []) hc hLo heq ⟨by omega, by omega⟩ (fun r9 h9 => x_runW hc (hw_answer _ _ _ _ _ _ h9) hR wd_461 wd_445 (Or.inl wd_444) (by decide) hl.1 xl_answer rfl (Nat.le_of_ble_eq_true rfl) d_Psh_answer_14 ⟨by show FW + 0 + 1 ≤ _; omega, by show 8 + (10 + 11) + (LW + 0) ≤ _; omega⟩ ⟨by show 0 + 0 ≤ _; omega, by show 0 + 0 ≤ _; omega⟩) (fun v4 h1 H locs hR hLo heq => ?_)
    exact x_iret hc hR hLo ⟨by omega, by omega⟩ heq d_Psh_answer_17
def f_Psh_ready (w_ready : Nat → Hs_t → Rs_t) (t0 : Nat) (h0 : Hs_t) : Rs_t := (fd_I [4] 2 h0 t0).bind fun v1 => (fd_A [4] 0 h0 t0).bind fun v2 => bd_I (w_ready v2 h0) (fun v3 h1 => re_I (v1 + v3) h1)
set_option maxRecDepth 100000 in
set_option maxHeartbeats 4000000 in
theorem c_Psh_ready {l : Launch} {s0 : State} {A0 : Array Value} {G : Gx_t} (hG : G_0 l s0 A0 G) (FW LW : Nat) (w_ready : Nat → Hs_t → Rs_t) (rm : Room) (hrm : rm_Ok 0 0 (FW + 1) (LW + 29) rm) (hw_ready : ∀ (a : Nat) (h : Hs_t) (r0 : Outcome × Hs_t), w_ready a h = some r0 → V_X G s0 l xn_ready { frames := FW, cells := 0, slots := 0, locals := LW } a [] h r0) (t0 : Nat) (h0 : Hs_t) (r : Outcome × Hs_t) (heq : f_Psh_ready w_ready t0 h0 = some r) : M_X G s0 l y_Psh_ready (.code y_Psh_ready b_Psh_ready 1 (some .int)) rm [.ref t0] h0 r := by
  refine M_X.of (by decide) hG (fun p e s m below meth c H hc hR => ?_)
  have hx := hc.x
  have hb := hc.b
  obtain ⟨hm1, hm2, hm3, hm4⟩ := id hrm
  have hLo : Lo_k s0 [] := fun _ hq => absurd hq List.not_mem_nil
  have hl := lv_entry ([.ref t0]) (n := 1) (Nat.le_of_ble_eq_true rfl)
  rw [lg_entry_eq]
  generalize (lg_sl ([.ref t0]) ++ List.replicate (1 - (lg_sl ([.ref t0])).length) Slot.unset).toArray = ls at hl ⊢
  have hl : lv_has ls 1 [(0, .ref t0)] := hl
  generalize hle : ([] : List Loc) = locs at hLo ⊢
  unfold f_Psh_ready at heq
  refine lv_aload_n hx hb d_Psh_ready_0 rfl (lv_at hl 0 rfl) ?_
  refine x_gI hc hR fl_Psh_17 heq d_Psh_ready_1 (fun v1 heq => ?_)
  refine lv_aload_n hx hb d_Psh_ready_4 rfl (lv_at hl 0 rfl) ?_
  refine x_gA hc hR fl_Psh_7 heq d_Psh_ready_5 (fun v2 heq => ?_)
  refine x_bI (mc := 0) (ms := 0) (st := [.int v1]) hc hLo heq ⟨by omega, by omega⟩ (fun r9 h9 => x_runW hc (hw_ready _ _ _ h9) hR wd_143 wd_130 (Or.inl wd_129) (by decide) hl.1 xl_ready rfl (Nat.le_of_ble_eq_true rfl) d_Psh_ready_8 ⟨by show FW + 0 + 1 ≤ _; omega, by show 8 + (10 + 11) + (LW + 0) ≤ _; omega⟩ ⟨by show 0 + 0 ≤ _; omega, by show 0 + 0 ≤ _; omega⟩) (fun v3 h1 H locs hR hLo heq => ?_)
  refine lv_iadd hx hb d_Psh_ready_11 ?_
  exact x_iret hc hR hLo ⟨by omega, by omega⟩ heq d_Psh_ready_12
def f_Psh_state (t0 : Nat) (h0 : Hs_t) : Rs_t := (fd_I [4] 2 h0 t0).bind fun v1 => re_I v1 h0
set_option maxRecDepth 100000 in
set_option maxHeartbeats 4000000 in
theorem c_Psh_state {l : Launch} {s0 : State} {A0 : Array Value} {G : Gx_t} (hG : G_0 l s0 A0 G) (rm : Room) (hrm : rm_Ok 0 0 0 0 rm) (t0 : Nat) (h0 : Hs_t) (r : Outcome × Hs_t) (heq : f_Psh_state t0 h0 = some r) : M_X G s0 l y_Psh_state (.code y_Psh_state b_Psh_state 1 (some .int)) rm [.ref t0] h0 r := by
  refine M_X.of (by decide) hG (fun p e s m below meth c H hc hR => ?_)
  have hx := hc.x
  have hb := hc.b
  obtain ⟨hm1, hm2, hm3, hm4⟩ := id hrm
  have hLo : Lo_k s0 [] := fun _ hq => absurd hq List.not_mem_nil
  have hl := lv_entry ([.ref t0]) (n := 1) (Nat.le_of_ble_eq_true rfl)
  rw [lg_entry_eq]
  generalize (lg_sl ([.ref t0]) ++ List.replicate (1 - (lg_sl ([.ref t0])).length) Slot.unset).toArray = ls at hl ⊢
  have hl : lv_has ls 1 [(0, .ref t0)] := hl
  generalize hle : ([] : List Loc) = locs at hLo ⊢
  unfold f_Psh_state at heq
  refine lv_aload_n hx hb d_Psh_state_0 rfl (lv_at hl 0 rfl) ?_
  refine x_gI hc hR fl_Psh_17 heq d_Psh_state_1 (fun v1 heq => ?_)
  exact x_iret hc hR hLo ⟨by omega, by omega⟩ heq d_Psh_state_4
def rm_Psh_state : Room := { frames := 0, cells := 0, slots := 0, locals := 0 }
theorem rk_Psh_state : rm_Ok 0 0 0 0 rm_Psh_state := ⟨Nat.le_refl _, Nat.le_refl _, Nat.le_refl _, Nat.le_refl _⟩
def v_answer : Nat → Nat → Int32 → Nat → Int32 → Hs_t → Rs_t
  | 0, _, _, _, _, _ => none
  | d + 1, a, x1, x2, x3, h => match tg_O h a with
    | some t => if t = 2 then f_Src_answer a x1 x2 x3 h else (if t = 3 then f_Buf_answer (v_answer d) a x1 x2 x3 h else (if t = 4 then f_Psh_answer (v_answer d) a x1 x2 x3 h else (if t = 5 then f_Lim_answer (v_answer d) a x1 x2 x3 h else (if t = 6 then f_Cod_answer (v_answer d) a x1 x2 x3 h else (if t = 7 then f_Lin_answer (v_answer d) a x1 x2 x3 h else (none))))))
    | none => none
set_option maxHeartbeats 4000000 in
theorem vk_answer {l : Launch} {s0 : State} {A0 : Array Value} {G : Gx_t} (hG : G_0 l s0 A0 G) : ∀ (d a : Nat) (x1 : Int32) (x2 : Nat) (x3 : Int32) (h : Hs_t) (r0 : Outcome × Hs_t), v_answer d a x1 x2 x3 h = some r0 → V_X G s0 l xn_answer { frames := 10 * d + 10, cells := 0, slots := 0, locals := 200 * d + 200 } a [.int x1, .ref x2, .int x3] h r0 := by
  intro d
  induction d with
  | zero =>
    intro a x1 x2 x3 h r0 heq
    unfold v_answer at heq
    cases heq
  | succ d ih =>
    intro a x1 x2 x3 h r0 heq
    unfold v_answer at heq
    cases ht : tg_O h a with
    | none => simp [ht] at heq
    | some t =>
      simp only [ht] at heq
      obtain ⟨fs, hx⟩ := tg_O_spec ht
      by_cases h2 : t = 2
      · subst h2
        rw [if_pos rfl] at heq
        exact ⟨2, _, fs, _, _, y_Src_answer, _, 5, hx, rfl, ⟨md_Src_answer, wd_462, wd_488⟩, by decide, c_Src_answer hG _ ⟨Nat.le_refl _, Nat.le_refl _, by show 1 ≤ 10 * (d + 1) + 10; omega, by show 40 ≤ 200 * (d + 1) + 200; omega⟩ _ _ _ _ _ _ heq⟩
      rw [if_neg h2] at heq
      by_cases h3 : t = 3
      · subst h3
        rw [if_pos rfl] at heq
        exact ⟨3, _, fs, _, _, y_Buf_answer, _, 5, hx, rfl, ⟨md_Buf_answer, wd_447, wd_446⟩, by decide, c_Buf_answer hG (10 * d + 10) (200 * d + 200) (v_answer d) _ ⟨Nat.le_refl _, Nat.le_refl _, by show 10 * d + 10 + 2 ≤ 10 * (d + 1) + 10; omega, by show 200 * d + 200 + 61 ≤ 200 * (d + 1) + 200; omega⟩ ih _ _ _ _ _ _ heq⟩
      rw [if_neg h3] at heq
      by_cases h4 : t = 4
      · subst h4
        rw [if_pos rfl] at heq
        exact ⟨4, _, fs, _, _, y_Psh_answer, _, 6, hx, rfl, ⟨md_Psh_answer, wd_459, wd_487⟩, by decide, c_Psh_answer hG (10 * d + 10) (200 * d + 200) (v_answer d) _ ⟨Nat.le_refl _, Nat.le_refl _, by show 10 * d + 10 + 1 ≤ 10 * (d + 1) + 10; omega, by show 200 * d + 200 + 29 ≤ 200 * (d + 1) + 200; omega⟩ ih _ _ _ _ _ _ heq⟩
      rw [if_neg h4] at heq
      by_cases h5 : t = 5
      · subst h5
        rw [if_pos rfl] at heq
        exact ⟨5, _, fs, _, _, y_Lim_answer, _, 5, hx, rfl, ⟨md_Lim_answer, wd_453, wd_485⟩, by decide, c_Lim_answer hG (10 * d + 10) (200 * d + 200) (v_answer d) _ ⟨Nat.le_refl _, Nat.le_refl _, by show 10 * d + 10 + 1 ≤ 10 * (d + 1) + 10; omega, by show 200 * d + 200 + 29 ≤ 200 * (d + 1) + 200; omega⟩ ih _ _ _ _ _ _ heq⟩
      rw [if_neg h5] at heq
      by_cases h6 : t = 6
      · subst h6
        rw [if_pos rfl] at heq
        exact ⟨6, _, fs, _, _, y_Cod_answer, _, 6, hx, rfl, ⟨md_Cod_answer, wd_450, wd_484⟩, by decide, c_Cod_answer hG (10 * d + 10) (200 * d + 200) (v_answer d) _ ⟨Nat.le_refl _, Nat.le_refl _, by show 10 * d + 10 + 1 ≤ 10 * (d + 1) + 10; omega, by show 200 * d + 200 + 29 ≤ 200 * (d + 1) + 200; omega⟩ ih _ _ _ _ _ _ heq⟩
      rw [if_neg h6] at heq
      by_cases h7 : t = 7
      · subst h7
        rw [if_pos rfl] at heq
        exact ⟨7, _, fs, _, _, y_Lin_answer, _, 6, hx, rfl, ⟨md_Lin_answer, wd_456, wd_486⟩, by decide, c_Lin_answer hG (10 * d + 10) (200 * d + 200) (v_answer d) _ ⟨Nat.le_refl _, Nat.le_refl _, by show 10 * d + 10 + 1 ≤ 10 * (d + 1) + 10; omega, by show 200 * d + 200 + 29 ≤ 200 * (d + 1) + 200; omega⟩ ih _ _ _ _ _ _ heq⟩
      rw [if_neg h7] at heq
      cases heq
def v_ready : Nat → Nat → Hs_t → Rs_t
  | 0, _, _ => none
  | d + 1, a, h => match tg_O h a with
    | some t => if t = 2 then f_Src_ready a h else (if t = 3 then f_Buf_ready (v_ready d) a h else (if t = 4 then f_Psh_ready (v_ready d) a h else (if t = 5 then f_Lim_ready (v_ready d) a h else (if t = 6 then f_Pas_ready (v_ready d) a h else (if t = 7 then f_Pas_ready (v_ready d) a h else (none))))))
    | none => none
set_option maxHeartbeats 4000000 in
theorem vk_ready {l : Launch} {s0 : State} {A0 : Array Value} {G : Gx_t} (hG : G_0 l s0 A0 G) : ∀ (d a : Nat) (h : Hs_t) (r0 : Outcome × Hs_t), v_ready d a h = some r0 → V_X G s0 l xn_ready { frames := 10 * d + 10, cells := 0, slots := 0, locals := 200 * d + 200 } a [] h r0 := by
  intro d
  induction d with
  | zero =>
    intro a h r0 heq
    unfold v_ready at heq
    cases heq
  | succ d ih =>
    intro a h r0 heq
    unfold v_ready at heq
    cases ht : tg_O h a with
    | none => simp [ht] at heq
    | some t =>
      simp only [ht] at heq
      obtain ⟨fs, hx⟩ := tg_O_spec ht
      by_cases h2 : t = 2
      · subst h2
        rw [if_pos rfl] at heq
        exact ⟨2, _, fs, _, _, y_Src_ready, _, 2, hx, rfl, ⟨md_Src_ready, wd_144, wd_153⟩, by decide, c_Src_ready hG _ ⟨Nat.le_refl _, Nat.le_refl _, by show 0 ≤ 10 * (d + 1) + 10; omega, by show 0 ≤ 200 * (d + 1) + 200; omega⟩ _ _ _ heq⟩
      rw [if_neg h2] at heq
      by_cases h3 : t = 3
      · subst h3
        rw [if_pos rfl] at heq
        exact ⟨3, _, fs, _, _, y_Buf_ready, _, 1, hx, rfl, ⟨md_Buf_ready, wd_132, wd_131⟩, by decide, c_Buf_ready hG (10 * d + 10) (200 * d + 200) (v_ready d) _ ⟨Nat.le_refl _, Nat.le_refl _, by show 10 * d + 10 + 1 ≤ 10 * (d + 1) + 10; omega, by show 200 * d + 200 + 29 ≤ 200 * (d + 1) + 200; omega⟩ ih _ _ _ heq⟩
      rw [if_neg h3] at heq
      by_cases h4 : t = 4
      · subst h4
        rw [if_pos rfl] at heq
        exact ⟨4, _, fs, _, _, y_Psh_ready, _, 1, hx, rfl, ⟨md_Psh_ready, wd_141, wd_152⟩, by decide, c_Psh_ready hG (10 * d + 10) (200 * d + 200) (v_ready d) _ ⟨Nat.le_refl _, Nat.le_refl _, by show 10 * d + 10 + 1 ≤ 10 * (d + 1) + 10; omega, by show 200 * d + 200 + 29 ≤ 200 * (d + 1) + 200; omega⟩ ih _ _ _ heq⟩
      rw [if_neg h4] at heq
      by_cases h5 : t = 5
      · subst h5
        rw [if_pos rfl] at heq
        exact ⟨5, _, fs, _, _, y_Lim_ready, _, 1, hx, rfl, ⟨md_Lim_ready, wd_138, wd_150⟩, by decide, c_Lim_ready hG (10 * d + 10) (200 * d + 200) (v_ready d) _ ⟨Nat.le_refl _, Nat.le_refl _, by show 10 * d + 10 + 1 ≤ 10 * (d + 1) + 10; omega, by show 200 * d + 200 + 29 ≤ 200 * (d + 1) + 200; omega⟩ ih _ _ _ heq⟩
      rw [if_neg h5] at heq
      by_cases h6 : t = 6
      · subst h6
        rw [if_pos rfl] at heq
        exact ⟨6, _, fs, _, _, y_Pas_ready, _, 1, hx, rfl, ⟨md_Pas_ready, wd_135, wd_149⟩, by decide, c_Pas_ready hG (10 * d + 10) (200 * d + 200) (v_ready d) _ ⟨Nat.le_refl _, Nat.le_refl _, by show 10 * d + 10 + 1 ≤ 10 * (d + 1) + 10; omega, by show 200 * d + 200 + 29 ≤ 200 * (d + 1) + 200; omega⟩ ih _ _ _ heq⟩
      rw [if_neg h6] at heq
      by_cases h7 : t = 7
      · subst h7
        rw [if_pos rfl] at heq
        exact ⟨7, _, fs, _, _, y_Pas_ready, _, 1, hx, rfl, ⟨md_Pas_ready, wd_135, wd_151⟩, by decide, c_Pas_ready hG (10 * d + 10) (200 * d + 200) (v_ready d) _ ⟨Nat.le_refl _, Nat.le_refl _, by show 10 * d + 10 + 1 ≤ 10 * (d + 1) + 10; omega, by show 200 * d + 200 + 29 ≤ 200 * (d + 1) + 200; omega⟩ ih _ _ _ heq⟩
      rw [if_neg h7] at heq
      cases heq
def v_state (a : Nat) (h : Hs_t) : Rs_t := match tg_O h a with
    | some t => if t = 2 then f_Src_state a h else (if t = 3 then f_Buf_state a h else (if t = 4 then f_Psh_state a h else (if t = 5 then f_Lim_state a h else (if t = 6 then f_Cod_state a h else (if t = 7 then f_Lin_state a h else (none))))))
    | none => none
set_option maxHeartbeats 4000000 in
theorem vk_state {l : Launch} {s0 : State} {A0 : Array Value} {G : Gx_t} (hG : G_0 l s0 A0 G) (a : Nat) (h : Hs_t) (r0 : Outcome × Hs_t) (heq : v_state a h = some r0) : V_X G s0 l xn_state { frames := 80, cells := 0, slots := 0, locals := 1600 } a [] h r0 := by
  unfold v_state at heq
  cases ht : tg_O h a with
  | none => simp [ht] at heq
  | some t =>
    simp only [ht] at heq
    obtain ⟨fs, hx⟩ := tg_O_spec ht
    by_cases h2 : t = 2
    · subst h2
      rw [if_pos rfl] at heq
      exact ⟨2, _, fs, _, _, y_Src_state, _, 1, hx, rfl, ⟨md_Src_state, wd_163, wd_184⟩, by decide, c_Src_state hG _ ⟨Nat.le_refl _, Nat.le_refl _, by show 0 ≤ 80; omega, by show 0 ≤ 1600; omega⟩ _ _ _ heq⟩
    rw [if_neg h2] at heq
    by_cases h3 : t = 3
    · subst h3
      rw [if_pos rfl] at heq
      exact ⟨3, _, fs, _, _, y_Buf_state, _, 1, hx, rfl, ⟨md_Buf_state, wd_170, wd_169⟩, by decide, c_Buf_state hG _ ⟨Nat.le_refl _, Nat.le_refl _, by show 0 ≤ 80; omega, by show 0 ≤ 1600; omega⟩ _ _ _ heq⟩
    rw [if_neg h3] at heq
    by_cases h4 : t = 4
    · subst h4
      rw [if_pos rfl] at heq
      exact ⟨4, _, fs, _, _, y_Psh_state, _, 1, hx, rfl, ⟨md_Psh_state, wd_182, wd_181⟩, by decide, c_Psh_state hG _ ⟨Nat.le_refl _, Nat.le_refl _, by show 0 ≤ 80; omega, by show 0 ≤ 1600; omega⟩ _ _ _ heq⟩
    rw [if_neg h4] at heq
    by_cases h5 : t = 5
    · subst h5
      rw [if_pos rfl] at heq
      exact ⟨5, _, fs, _, _, y_Lim_state, _, 1, hx, rfl, ⟨md_Lim_state, wd_176, wd_175⟩, by decide, c_Lim_state hG _ ⟨Nat.le_refl _, Nat.le_refl _, by show 0 ≤ 80; omega, by show 0 ≤ 1600; omega⟩ _ _ _ heq⟩
    rw [if_neg h5] at heq
    by_cases h6 : t = 6
    · subst h6
      rw [if_pos rfl] at heq
      exact ⟨6, _, fs, _, _, y_Cod_state, _, 1, hx, rfl, ⟨md_Cod_state, wd_173, wd_172⟩, by decide, c_Cod_state hG _ ⟨Nat.le_refl _, Nat.le_refl _, by show 0 ≤ 80; omega, by show 0 ≤ 1600; omega⟩ _ _ _ heq⟩
    rw [if_neg h6] at heq
    by_cases h7 : t = 7
    · subst h7
      rw [if_pos rfl] at heq
      exact ⟨7, _, fs, _, _, y_Lin_state, _, 1, hx, rfl, ⟨md_Lin_state, wd_179, wd_178⟩, by decide, c_Lin_state hG _ ⟨Nat.le_refl _, Nat.le_refl _, by show 0 ≤ 80; omega, by show 0 ≤ 1600; omega⟩ _ _ _ heq⟩
    rw [if_neg h7] at heq
    cases heq
def v_canBeMarked : Nat → Nat → Hs_t → Rs_t
  | 0, _, _ => none
  | d + 1, a, h => match tg_O h a with
    | some t => if t = 2 then f_Str_canBeMarked a h else (if t = 3 then f_Buf_canBeMarked a h else (if t = 4 then f_Str_canBeMarked a h else (if t = 5 then f_Pas_canBeMarked (v_canBeMarked d) a h else (if t = 6 then f_Pas_canBeMarked (v_canBeMarked d) a h else (if t = 7 then f_Pas_canBeMarked (v_canBeMarked d) a h else (none))))))
    | none => none
set_option maxHeartbeats 4000000 in
theorem vk_canBeMarked {l : Launch} {s0 : State} {A0 : Array Value} {G : Gx_t} (hG : G_0 l s0 A0 G) : ∀ (d a : Nat) (h : Hs_t) (r0 : Outcome × Hs_t), v_canBeMarked d a h = some r0 → V_X G s0 l xn_canBeMarked { frames := 10 * d + 10, cells := 0, slots := 0, locals := 200 * d + 200 } a [] h r0 := by
  intro d
  induction d with
  | zero =>
    intro a h r0 heq
    unfold v_canBeMarked at heq
    cases heq
  | succ d ih =>
    intro a h r0 heq
    unfold v_canBeMarked at heq
    cases ht : tg_O h a with
    | none => simp [ht] at heq
    | some t =>
      simp only [ht] at heq
      obtain ⟨fs, hx⟩ := tg_O_spec ht
      by_cases h2 : t = 2
      · subst h2
        rw [if_pos rfl] at heq
        exact ⟨2, _, fs, _, _, y_Str_canBeMarked, _, 1, hx, rfl, ⟨md_Str_canBeMarked, wd_590, wd_602⟩, by decide, c_Str_canBeMarked hG _ ⟨Nat.le_refl _, Nat.le_refl _, by show 0 ≤ 10 * (d + 1) + 10; omega, by show 0 ≤ 200 * (d + 1) + 200; omega⟩ _ _ _ heq⟩
      rw [if_neg h2] at heq
      by_cases h3 : t = 3
      · subst h3
        rw [if_pos rfl] at heq
        exact ⟨3, _, fs, _, _, y_Buf_canBeMarked, _, 1, hx, rfl, ⟨md_Buf_canBeMarked, wd_593, wd_592⟩, by decide, c_Buf_canBeMarked hG _ ⟨Nat.le_refl _, Nat.le_refl _, by show 0 ≤ 10 * (d + 1) + 10; omega, by show 0 ≤ 200 * (d + 1) + 200; omega⟩ _ _ _ heq⟩
      rw [if_neg h3] at heq
      by_cases h4 : t = 4
      · subst h4
        rw [if_pos rfl] at heq
        exact ⟨4, _, fs, _, _, y_Str_canBeMarked, _, 1, hx, rfl, ⟨md_Str_canBeMarked, wd_590, wd_601⟩, by decide, c_Str_canBeMarked hG _ ⟨Nat.le_refl _, Nat.le_refl _, by show 0 ≤ 10 * (d + 1) + 10; omega, by show 0 ≤ 200 * (d + 1) + 200; omega⟩ _ _ _ heq⟩
      rw [if_neg h4] at heq
      by_cases h5 : t = 5
      · subst h5
        rw [if_pos rfl] at heq
        exact ⟨5, _, fs, _, _, y_Pas_canBeMarked, _, 1, hx, rfl, ⟨md_Pas_canBeMarked, wd_596, wd_599⟩, by decide, c_Pas_canBeMarked hG (10 * d + 10) (200 * d + 200) (v_canBeMarked d) _ ⟨Nat.le_refl _, Nat.le_refl _, by show 10 * d + 10 + 1 ≤ 10 * (d + 1) + 10; omega, by show 200 * d + 200 + 29 ≤ 200 * (d + 1) + 200; omega⟩ ih _ _ _ heq⟩
      rw [if_neg h5] at heq
      by_cases h6 : t = 6
      · subst h6
        rw [if_pos rfl] at heq
        exact ⟨6, _, fs, _, _, y_Pas_canBeMarked, _, 1, hx, rfl, ⟨md_Pas_canBeMarked, wd_596, wd_595⟩, by decide, c_Pas_canBeMarked hG (10 * d + 10) (200 * d + 200) (v_canBeMarked d) _ ⟨Nat.le_refl _, Nat.le_refl _, by show 10 * d + 10 + 1 ≤ 10 * (d + 1) + 10; omega, by show 200 * d + 200 + 29 ≤ 200 * (d + 1) + 200; omega⟩ ih _ _ _ heq⟩
      rw [if_neg h6] at heq
      by_cases h7 : t = 7
      · subst h7
        rw [if_pos rfl] at heq
        exact ⟨7, _, fs, _, _, y_Pas_canBeMarked, _, 1, hx, rfl, ⟨md_Pas_canBeMarked, wd_596, wd_600⟩, by decide, c_Pas_canBeMarked hG (10 * d + 10) (200 * d + 200) (v_canBeMarked d) _ ⟨Nat.le_refl _, Nat.le_refl _, by show 10 * d + 10 + 1 ≤ 10 * (d + 1) + 10; omega, by show 200 * d + 200 + 29 ≤ 200 * (d + 1) + 200; omega⟩ ih _ _ _ heq⟩
      rw [if_neg h7] at heq
      cases heq
def v_hasMark : Nat → Nat → Hs_t → Rs_t
  | 0, _, _ => none
  | d + 1, a, h => match tg_O h a with
    | some t => if t = 2 then f_Str_hasMark a h else (if t = 3 then f_Buf_hasMark a h else (if t = 4 then f_Str_hasMark a h else (if t = 5 then f_Pas_hasMark (v_hasMark d) a h else (if t = 6 then f_Pas_hasMark (v_hasMark d) a h else (if t = 7 then f_Pas_hasMark (v_hasMark d) a h else (none))))))
    | none => none
set_option maxHeartbeats 4000000 in
theorem vk_hasMark {l : Launch} {s0 : State} {A0 : Array Value} {G : Gx_t} (hG : G_0 l s0 A0 G) : ∀ (d a : Nat) (h : Hs_t) (r0 : Outcome × Hs_t), v_hasMark d a h = some r0 → V_X G s0 l xn_hasMark { frames := 10 * d + 10, cells := 0, slots := 0, locals := 200 * d + 200 } a [] h r0 := by
  intro d
  induction d with
  | zero =>
    intro a h r0 heq
    unfold v_hasMark at heq
    cases heq
  | succ d ih =>
    intro a h r0 heq
    unfold v_hasMark at heq
    cases ht : tg_O h a with
    | none => simp [ht] at heq
    | some t =>
      simp only [ht] at heq
      obtain ⟨fs, hx⟩ := tg_O_spec ht
      by_cases h2 : t = 2
      · subst h2
        rw [if_pos rfl] at heq
        exact ⟨2, _, fs, _, _, y_Str_hasMark, _, 1, hx, rfl, ⟨md_Str_hasMark, wd_654, wd_666⟩, by decide, c_Str_hasMark hG _ ⟨Nat.le_refl _, Nat.le_refl _, by show 0 ≤ 10 * (d + 1) + 10; omega, by show 0 ≤ 200 * (d + 1) + 200; omega⟩ _ _ _ heq⟩
      rw [if_neg h2] at heq
      by_cases h3 : t = 3
      · subst h3
        rw [if_pos rfl] at heq
        exact ⟨3, _, fs, _, _, y_Buf_hasMark, _, 1, hx, rfl, ⟨md_Buf_hasMark, wd_657, wd_656⟩, by decide, c_Buf_hasMark hG _ ⟨Nat.le_refl _, Nat.le_refl _, by show 0 ≤ 10 * (d + 1) + 10; omega, by show 0 ≤ 200 * (d + 1) + 200; omega⟩ _ _ _ heq⟩
      rw [if_neg h3] at heq
      by_cases h4 : t = 4
      · subst h4
        rw [if_pos rfl] at heq
        exact ⟨4, _, fs, _, _, y_Str_hasMark, _, 1, hx, rfl, ⟨md_Str_hasMark, wd_654, wd_665⟩, by decide, c_Str_hasMark hG _ ⟨Nat.le_refl _, Nat.le_refl _, by show 0 ≤ 10 * (d + 1) + 10; omega, by show 0 ≤ 200 * (d + 1) + 200; omega⟩ _ _ _ heq⟩
      rw [if_neg h4] at heq
      by_cases h5 : t = 5
      · subst h5
        rw [if_pos rfl] at heq
        exact ⟨5, _, fs, _, _, y_Pas_hasMark, _, 1, hx, rfl, ⟨md_Pas_hasMark, wd_660, wd_663⟩, by decide, c_Pas_hasMark hG (10 * d + 10) (200 * d + 200) (v_hasMark d) _ ⟨Nat.le_refl _, Nat.le_refl _, by show 10 * d + 10 + 1 ≤ 10 * (d + 1) + 10; omega, by show 200 * d + 200 + 29 ≤ 200 * (d + 1) + 200; omega⟩ ih _ _ _ heq⟩
      rw [if_neg h5] at heq
      by_cases h6 : t = 6
      · subst h6
        rw [if_pos rfl] at heq
        exact ⟨6, _, fs, _, _, y_Pas_hasMark, _, 1, hx, rfl, ⟨md_Pas_hasMark, wd_660, wd_659⟩, by decide, c_Pas_hasMark hG (10 * d + 10) (200 * d + 200) (v_hasMark d) _ ⟨Nat.le_refl _, Nat.le_refl _, by show 10 * d + 10 + 1 ≤ 10 * (d + 1) + 10; omega, by show 200 * d + 200 + 29 ≤ 200 * (d + 1) + 200; omega⟩ ih _ _ _ heq⟩
      rw [if_neg h6] at heq
      by_cases h7 : t = 7
      · subst h7
        rw [if_pos rfl] at heq
        exact ⟨7, _, fs, _, _, y_Pas_hasMark, _, 1, hx, rfl, ⟨md_Pas_hasMark, wd_660, wd_664⟩, by decide, c_Pas_hasMark hG (10 * d + 10) (200 * d + 200) (v_hasMark d) _ ⟨Nat.le_refl _, Nat.le_refl _, by show 10 * d + 10 + 1 ≤ 10 * (d + 1) + 10; omega, by show 200 * d + 200 + 29 ≤ 200 * (d + 1) + 200; omega⟩ ih _ _ _ heq⟩
      rw [if_neg h7] at heq
      cases heq
def v_takeMark : Nat → Nat → Int32 → Hs_t → Rs_t
  | 0, _, _, _ => none
  | d + 1, a, x1, h => match tg_O h a with
    | some t => if t = 2 then f_Str_takeMark a x1 h else (if t = 3 then f_Buf_takeMark a x1 h else (if t = 4 then f_Str_takeMark a x1 h else (if t = 5 then f_Pas_takeMark (v_takeMark d) a x1 h else (if t = 6 then f_Pas_takeMark (v_takeMark d) a x1 h else (if t = 7 then f_Pas_takeMark (v_takeMark d) a x1 h else (none))))))
    | none => none
set_option maxHeartbeats 4000000 in
theorem vk_takeMark {l : Launch} {s0 : State} {A0 : Array Value} {G : Gx_t} (hG : G_0 l s0 A0 G) : ∀ (d a : Nat) (x1 : Int32) (h : Hs_t) (r0 : Outcome × Hs_t), v_takeMark d a x1 h = some r0 → V_X G s0 l xn_takeMark { frames := 10 * d + 10, cells := 0, slots := 0, locals := 200 * d + 200 } a [.int x1] h r0 := by
  intro d
  induction d with
  | zero =>
    intro a x1 h r0 heq
    unfold v_takeMark at heq
    cases heq
  | succ d ih =>
    intro a x1 h r0 heq
    unfold v_takeMark at heq
    cases ht : tg_O h a with
    | none => simp [ht] at heq
    | some t =>
      simp only [ht] at heq
      obtain ⟨fs, hx⟩ := tg_O_spec ht
      by_cases h2 : t = 2
      · subst h2
        rw [if_pos rfl] at heq
        exact ⟨2, _, fs, _, _, y_Str_takeMark, _, 2, hx, rfl, ⟨md_Str_takeMark, wd_620, wd_644⟩, by decide, c_Str_takeMark hG _ ⟨Nat.le_refl _, Nat.le_refl _, by show 0 ≤ 10 * (d + 1) + 10; omega, by show 0 ≤ 200 * (d + 1) + 200; omega⟩ _ _ _ _ heq⟩
      rw [if_neg h2] at heq
      by_cases h3 : t = 3
      · subst h3
        rw [if_pos rfl] at heq
        exact ⟨3, _, fs, _, _, y_Buf_takeMark, _, 2, hx, rfl, ⟨md_Buf_takeMark, wd_623, wd_622⟩, by decide, c_Buf_takeMark hG _ ⟨Nat.le_refl _, Nat.le_refl _, by show 0 ≤ 10 * (d + 1) + 10; omega, by show 0 ≤ 200 * (d + 1) + 200; omega⟩ _ _ _ _ heq⟩
      rw [if_neg h3] at heq
      by_cases h4 : t = 4
      · subst h4
        rw [if_pos rfl] at heq
        exact ⟨4, _, fs, _, _, y_Str_takeMark, _, 2, hx, rfl, ⟨md_Str_takeMark, wd_620, wd_643⟩, by decide, c_Str_takeMark hG _ ⟨Nat.le_refl _, Nat.le_refl _, by show 0 ≤ 10 * (d + 1) + 10; omega, by show 0 ≤ 200 * (d + 1) + 200; omega⟩ _ _ _ _ heq⟩
      rw [if_neg h4] at heq
      by_cases h5 : t = 5
      · subst h5
        rw [if_pos rfl] at heq
        exact ⟨5, _, fs, _, _, y_Pas_takeMark, _, 2, hx, rfl, ⟨md_Pas_takeMark, wd_626, wd_641⟩, by decide, c_Pas_takeMark hG (10 * d + 10) (200 * d + 200) (v_takeMark d) _ ⟨Nat.le_refl _, Nat.le_refl _, by show 10 * d + 10 + 7 ≤ 10 * (d + 1) + 10; omega, by show 200 * d + 200 + 109 ≤ 200 * (d + 1) + 200; omega⟩ ih _ _ _ _ heq⟩
      rw [if_neg h5] at heq
      by_cases h6 : t = 6
      · subst h6
        rw [if_pos rfl] at heq
        exact ⟨6, _, fs, _, _, y_Pas_takeMark, _, 2, hx, rfl, ⟨md_Pas_takeMark, wd_626, wd_625⟩, by decide, c_Pas_takeMark hG (10 * d + 10) (200 * d + 200) (v_takeMark d) _ ⟨Nat.le_refl _, Nat.le_refl _, by show 10 * d + 10 + 7 ≤ 10 * (d + 1) + 10; omega, by show 200 * d + 200 + 109 ≤ 200 * (d + 1) + 200; omega⟩ ih _ _ _ _ heq⟩
      rw [if_neg h6] at heq
      by_cases h7 : t = 7
      · subst h7
        rw [if_pos rfl] at heq
        exact ⟨7, _, fs, _, _, y_Pas_takeMark, _, 2, hx, rfl, ⟨md_Pas_takeMark, wd_626, wd_642⟩, by decide, c_Pas_takeMark hG (10 * d + 10) (200 * d + 200) (v_takeMark d) _ ⟨Nat.le_refl _, Nat.le_refl _, by show 10 * d + 10 + 7 ≤ 10 * (d + 1) + 10; omega, by show 200 * d + 200 + 109 ≤ 200 * (d + 1) + 200; omega⟩ ih _ _ _ _ heq⟩
      rw [if_neg h7] at heq
      cases heq
def v_goBack : Nat → Nat → Hs_t → Rs_t
  | 0, _, _ => none
  | d + 1, a, h => match tg_O h a with
    | some t => if t = 2 then f_Str_goBack a h else (if t = 3 then f_Buf_goBack a h else (if t = 4 then f_Str_goBack a h else (if t = 5 then f_Pas_goBack (v_goBack d) a h else (if t = 6 then f_Pas_goBack (v_goBack d) a h else (if t = 7 then f_Pas_goBack (v_goBack d) a h else (none))))))
    | none => none
set_option maxHeartbeats 4000000 in
theorem vk_goBack {l : Launch} {s0 : State} {A0 : Array Value} {G : Gx_t} (hG : G_0 l s0 A0 G) : ∀ (d a : Nat) (h : Hs_t) (r0 : Outcome × Hs_t), v_goBack d a h = some r0 → V_X G s0 l xn_goBack { frames := 10 * d + 10, cells := 0, slots := 0, locals := 200 * d + 200 } a [] h r0 := by
  intro d
  induction d with
  | zero =>
    intro a h r0 heq
    unfold v_goBack at heq
    cases heq
  | succ d ih =>
    intro a h r0 heq
    unfold v_goBack at heq
    cases ht : tg_O h a with
    | none => simp [ht] at heq
    | some t =>
      simp only [ht] at heq
      obtain ⟨fs, hx⟩ := tg_O_spec ht
      by_cases h2 : t = 2
      · subst h2
        rw [if_pos rfl] at heq
        exact ⟨2, _, fs, _, _, y_Str_goBack, _, 1, hx, rfl, ⟨md_Str_goBack, wd_669, wd_693⟩, by decide, c_Str_goBack hG _ ⟨Nat.le_refl _, Nat.le_refl _, by show 0 ≤ 10 * (d + 1) + 10; omega, by show 0 ≤ 200 * (d + 1) + 200; omega⟩ _ _ _ heq⟩
      rw [if_neg h2] at heq
      by_cases h3 : t = 3
      · subst h3
        rw [if_pos rfl] at heq
        exact ⟨3, _, fs, _, _, y_Buf_goBack, _, 1, hx, rfl, ⟨md_Buf_goBack, wd_672, wd_671⟩, by decide, c_Buf_goBack hG _ ⟨Nat.le_refl _, Nat.le_refl _, by show 0 ≤ 10 * (d + 1) + 10; omega, by show 0 ≤ 200 * (d + 1) + 200; omega⟩ _ _ _ heq⟩
      rw [if_neg h3] at heq
      by_cases h4 : t = 4
      · subst h4
        rw [if_pos rfl] at heq
        exact ⟨4, _, fs, _, _, y_Str_goBack, _, 1, hx, rfl, ⟨md_Str_goBack, wd_669, wd_692⟩, by decide, c_Str_goBack hG _ ⟨Nat.le_refl _, Nat.le_refl _, by show 0 ≤ 10 * (d + 1) + 10; omega, by show 0 ≤ 200 * (d + 1) + 200; omega⟩ _ _ _ heq⟩
      rw [if_neg h4] at heq
      by_cases h5 : t = 5
      · subst h5
        rw [if_pos rfl] at heq
        exact ⟨5, _, fs, _, _, y_Pas_goBack, _, 1, hx, rfl, ⟨md_Pas_goBack, wd_675, wd_690⟩, by decide, c_Pas_goBack hG (10 * d + 10) (200 * d + 200) (v_goBack d) _ ⟨Nat.le_refl _, Nat.le_refl _, by show 10 * d + 10 + 7 ≤ 10 * (d + 1) + 10; omega, by show 200 * d + 200 + 109 ≤ 200 * (d + 1) + 200; omega⟩ ih _ _ _ heq⟩
      rw [if_neg h5] at heq
      by_cases h6 : t = 6
      · subst h6
        rw [if_pos rfl] at heq
        exact ⟨6, _, fs, _, _, y_Pas_goBack, _, 1, hx, rfl, ⟨md_Pas_goBack, wd_675, wd_674⟩, by decide, c_Pas_goBack hG (10 * d + 10) (200 * d + 200) (v_goBack d) _ ⟨Nat.le_refl _, Nat.le_refl _, by show 10 * d + 10 + 7 ≤ 10 * (d + 1) + 10; omega, by show 200 * d + 200 + 109 ≤ 200 * (d + 1) + 200; omega⟩ ih _ _ _ heq⟩
      rw [if_neg h6] at heq
      by_cases h7 : t = 7
      · subst h7
        rw [if_pos rfl] at heq
        exact ⟨7, _, fs, _, _, y_Pas_goBack, _, 1, hx, rfl, ⟨md_Pas_goBack, wd_675, wd_691⟩, by decide, c_Pas_goBack hG (10 * d + 10) (200 * d + 200) (v_goBack d) _ ⟨Nat.le_refl _, Nat.le_refl _, by show 10 * d + 10 + 7 ≤ 10 * (d + 1) + 10; omega, by show 200 * d + 200 + 109 ≤ 200 * (d + 1) + 200; omega⟩ ih _ _ _ heq⟩
      rw [if_neg h7] at heq
      cases heq
end
