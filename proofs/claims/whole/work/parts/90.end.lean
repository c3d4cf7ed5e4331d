/-- the numbers of the classes, and where their fields lie -/
theorem cl_kn {s : State} {args : Array Value} (hts : ∀ w ∈ lw_tbl, w.before args s = true) : ∀ t : Nat, ∃ (q : ClassId × (Nat → Nat)), ∀ z : vw_C, cl_L[t]? = some z → u_Kn s z.1 z.2.1 z.2.2 q.1 q.2 := by
  intro t
  match t with
  | 0 => obtain ⟨cC, iS, h⟩ := u_known (C := "StreamTower") (T := T_0) (N := 10) (n := 10) (ws := u_ws "StreamTower" T_0 10) (fun w hw => hts w (cl_in 0 _ _ _ rfl w hw).1) (fun w hw => hw) (hts _ wd_22.1); exact ⟨(cC, iS), fun z hz => by obtain ⟨⟩ := Option.some.inj hz; exact h⟩
  | 1 => obtain ⟨cC, iS, h⟩ := u_known (C := "StreamTower$Row") (T := T_1) (N := 2) (n := 2) (ws := u_ws "StreamTower$Row" T_1 2) (fun w hw => hts w (cl_in 1 _ _ _ rfl w hw).1) (fun w hw => hw) (hts _ wd_60.1); exact ⟨(cC, iS), fun z hz => by obtain ⟨⟩ := Option.some.inj hz; exact h⟩
  | 2 => obtain ⟨cC, iS, h⟩ := u_known (C := "StreamTower$Source") (T := T_2) (N := 5) (n := 5) (ws := u_ws "StreamTower$Source" T_2 5) (fun w hw => hts w (cl_in 2 _ _ _ rfl w hw).1) (fun w hw => hw) (hts _ wd_30.1); exact ⟨(cC, iS), fun z hz => by obtain ⟨⟩ := Option.some.inj hz; exact h⟩
  | 3 => obtain ⟨cC, iS, h⟩ := u_known (C := "StreamTower$Buffer") (T := T_3) (N := 8) (n := 8) (ws := u_ws "StreamTower$Buffer" T_3 8) (fun w hw => hts w (cl_in 3 _ _ _ rfl w hw).1) (fun w hw => hw) (hts _ wd_312.1); exact ⟨(cC, iS), fun z hz => by obtain ⟨⟩ := Option.some.inj hz; exact h⟩
  | 4 => obtain ⟨cC, iS, h⟩ := u_known (C := "StreamTower$Pushback") (T := T_4) (N := 3) (n := 3) (ws := u_ws "StreamTower$Pushback" T_4 3) (fun w hw => hts w (cl_in 4 _ _ _ rfl w hw).1) (fun w hw => hw) (hts _ wd_343.1); exact ⟨(cC, iS), fun z hz => by obtain ⟨⟩ := Option.some.inj hz; exact h⟩
  | 5 => obtain ⟨cC, iS, h⟩ := u_known (C := "StreamTower$Limit") (T := T_5) (N := 3) (n := 3) (ws := u_ws "StreamTower$Limit" T_5 3) (fun w hw => hts w (cl_in 5 _ _ _ rfl w hw).1) (fun w hw => hw) (hts _ wd_359.1); exact ⟨(cC, iS), fun z hz => by obtain ⟨⟩ := Option.some.inj hz; exact h⟩
  | 6 => obtain ⟨cC, iS, h⟩ := u_known (C := "StreamTower$Code") (T := T_6) (N := 4) (n := 4) (ws := u_ws "StreamTower$Code" T_6 4) (fun w hw => hts w (cl_in 6 _ _ _ rfl w hw).1) (fun w hw => hw) (hts _ wd_384.1); exact ⟨(cC, iS), fun z hz => by obtain ⟨⟩ := Option.some.inj hz; exact h⟩
  | 7 => obtain ⟨cC, iS, h⟩ := u_known (C := "StreamTower$Lines") (T := T_7) (N := 5) (n := 5) (ws := u_ws "StreamTower$Lines" T_7 5) (fun w hw => hts w (cl_in 7 _ _ _ rfl w hw).1) (fun w hw => hw) (hts _ wd_401.1); exact ⟨(cC, iS), fun z hz => by obtain ⟨⟩ := Option.some.inj hz; exact h⟩
  | 8 => obtain ⟨cC, iS, h⟩ := u_known (C := "StreamTowerModel") (T := T_8) (N := 28) (n := 28) (ws := u_ws "StreamTowerModel" T_8 28) (fun w hw => hts w (cl_in 8 _ _ _ rfl w hw).1) (fun w hw => hw) (hts _ wd_707.1); exact ⟨(cC, iS), fun z hz => by obtain ⟨⟩ := Option.some.inj hz; exact h⟩
  | 9 => obtain ⟨cC, iS, h⟩ := u_known (C := "java/lang/IllegalArgumentException") (T := T_9) (N := 0) (n := 6) (ws := u_ws "java/lang/IllegalArgumentException" T_9 0) (fun w hw => hts w (cl_in 9 _ _ _ rfl w hw).1) (fun w hw => hw) (hts _ wd_211.1); exact ⟨(cC, iS), fun z hz => by obtain ⟨⟩ := Option.some.inj hz; exact h⟩
  | 10 => obtain ⟨cC, iS, h⟩ := u_known (C := "java/lang/IllegalStateException") (T := T_10) (N := 0) (n := 6) (ws := u_ws "java/lang/IllegalStateException" T_10 0) (fun w hw => hts w (cl_in 10 _ _ _ rfl w hw).1) (fun w hw => hw) (hts _ wd_279.1); exact ⟨(cC, iS), fun z hz => by obtain ⟨⟩ := Option.some.inj hz; exact h⟩
  | 11 => obtain ⟨cC, iS, h⟩ := u_known (C := "java/util/NoSuchElementException") (T := T_11) (N := 0) (n := 6) (ws := u_ws "java/util/NoSuchElementException" T_11 0) (fun w hw => hts w (cl_in 11 _ _ _ rfl w hw).1) (fun w hw => hw) (hts _ wd_518.1); exact ⟨(cC, iS), fun z hz => by obtain ⟨⟩ := Option.some.inj hz; exact h⟩
  | 12 => obtain ⟨cC, iS, h⟩ := u_known (C := "java/lang/UnsupportedOperationException") (T := T_12) (N := 0) (n := 6) (ws := u_ws "java/lang/UnsupportedOperationException" T_12 0) (fun w hw => hts w (cl_in 12 _ _ _ rfl w hw).1) (fun w hw => hw) (hts _ wd_605.1); exact ⟨(cC, iS), fun z hz => by obtain ⟨⟩ := Option.some.inj hz; exact h⟩
  | n + 13 => exact ⟨(0, fun _ => 0), fun z hz => by simp [cl_L] at hz⟩
theorem cl_all {s : State} {args : Array Value} (hts : ∀ w ∈ lw_tbl, w.before args s = true) : ∃ G : Gx_t, va_K G.1 cl_L (ex_Ty G) s := by
  have h := cl_kn hts
  have prim : ∀ (ty : FieldType) (cA : ClassId) (kA : Class) (comp : ClassId), s.vm.classes[cA]? = some kA → kA.kind = .array comp ty → ArrOfT s cA ty := fun ty cA kA comp h1 h2 n z => ⟨fun k h => (by cases h), kA, h1, comp, h2⟩
  obtain ⟨c1, k1, p1, a1, a2, a3⟩ := Cond.arrayClass_spec (hts _ wd_55.1)
  obtain ⟨c2, k2, p2, b1, b2, b3⟩ := Cond.arrayClass_spec (hts _ wd_56.1)
  obtain ⟨c3, k3, p3, d1, d2, d3⟩ := Cond.arrayClass_spec (hts _ wd_945.1)
  obtain ⟨p4, c4, k4, e1, -, e2, e3, e4⟩ := Cond.arrayOver_spec (hts _ wd_58.1)
  refine ⟨((fun t => (Classical.choose (h t)).1, fun t => (Classical.choose (h t)).2), c1, c2, c3, c4), fun t z hz => Classical.choose_spec (h t) z hz, fun k q hk => ?_⟩
  match k, hk with
  | 0, hk => obtain ⟨⟩ := Option.some.inj hk; exact ⟨prim _ _ _ _ a2 a3, a1⟩
  | 1, hk => obtain ⟨⟩ := Option.some.inj hk; exact ⟨prim _ _ _ _ b2 b3, b1⟩
  | 2, hk => obtain ⟨⟩ := Option.some.inj hk; exact ⟨prim _ _ _ _ d2 d3, d1⟩
  | 3, hk => obtain ⟨⟩ := Option.some.inj hk; exact ⟨prim _ _ _ _ e2 e3, k4, p4, e2, e3, e1, e4⟩
  | n + 4, hk => simp [ex_Ty] at hk
theorem nc_all : nc_L.all (fun q => decide (Cond.not (.castable q.1 q.2) ∈ flatC (Jvm.Cond.and given_1 narrow_1))) = true := by decide +kernel
theorem whole_start {p : Program} {e : Env} {s : State} {m : MethodId} {below : List Frame} {meth : Method} {c : Code} (l : Launch) (hfl : l.stackTraces = false) {b L : Nat} {xs : Nat → Int32} (hL : L ≤ 1536) (C0 : lw_At p s m meth c b L xs) (hxt : c.exceptionTable.toList = []) (hnm : meth.name = x.name) : W p l e room_1 s m #[Value.ref b] below meth c s.heap [] 0 0 (lw_Z below #[Value.ref b] s) (entryFrame m ([Value.ref b] : List Value).toArray 8) := by
  obtain ⟨hx, hb, hr, hml, hown, hts, hX, hbl, hlocks, hgv⟩ := C0
  obtain ⟨G, hK⟩ := cl_all hts
  have hs := flat_of_before _ hgv
  have hG : G_0 l s #[Value.ref b] G := ⟨hts, hK, hfl, hs _ (by decide +kernel), hs _ (by decide +kernel), fun q hq => va_Nc.of (hs _ (of_decide_eq_true (List.all_eq_true.mp nc_all q hq)))⟩
  have hc : Cx_t p s m meth c s #[Value.ref b] l G x code 8 ret [] := ⟨hx, hb, hml, hr, hlocks, by rw [hxt]; rfl, hown, hnm, State.WarmedH.refl s, fun _ _ => rfl, hG⟩
  obtain ⟨r, heq⟩ := law_ok L xs s.heap.size hL
  exact c_L_law hc ⟨hX, hbl⟩ (s.heap.size, fun _ => none) s.heap ⟨rfl, Nat.le_refl _, fun _ _ => rfl, fun a c h => by cases h⟩ heq
set_option maxHeartbeats 4000000 in
theorem lw_walk (l : Launch) (hfl : l.stackTraces = false) (b : Addr) (xs : List Int32) : MetFree l x (headSpec (Jvm.Cond.code x code maxLocals ret :: tables_1) room_1) (lw_P b xs) (fun _ _ _ _ _ => True) lw_Q := by
  refine MetFree.of_bodyS (code := code) (maxLocals := maxLocals) (ret := ret) (by decide) ?_ ?_
  · intro args s m h hn
    obtain ⟨meth, c, h1, h2, h3, h4, h5, h6, -, -⟩ := Cond.code_spec hn (atoms_spec (ws := Jvm.Cond.code x code maxLocals ret :: tables_1) h _ List.mem_cons_self)
    exact ⟨meth, c, h1, h2, h3, h4, h5, h6⟩
  · intro p e s m args below meth c s₁ B hml0 hP _
    obtain ⟨rfl, hx, hbd, hgv⟩ := hP
    obtain ⟨scr, harrAt, hlist, hof, hsmall⟩ := hx
    obtain ⟨hcb, hkn, -, -⟩ := State.arrayAt?_spec harrAt
    have hown : s.vm.findClass R_law = some m.cls := findClass_of_methodNamed B.named
    have hts0 : ∀ c ∈ (Jvm.Cond.code x code maxLocals ret :: tables_1), c.before #[Value.ref b] s = true := atoms_spec (ws := Jvm.Cond.code x code maxLocals ret :: tables_1) B.pre
    have hts : ∀ w ∈ lw_tbl, w.before #[Value.ref b] s = true := k2_hts_sels lw_privs (fun w hw => hts0 w (List.mem_cons_of_mem _ hw)) lw_privs_ok
    have hml : c.maxLocals = 8 := B.maxLocals_eq (hts0 _ List.mem_cons_self)
    have X₀ : Stand p l e room_1 s m #[Value.ref b] below meth c s₁ [] 0 0 := Stand.of_body B
    have hh0 : s₁.heap = s.heap := by rw [B.state]; rfl
    have hsz : scr.slots.size = xs.length := by rw [← Array.length_toList, hlist, List.length_map]
    have hval : ∀ j : Nat, j < xs.length → scr.slots[j]? = some (.int (xs.getD j 0)) := fun j hj => by
      rw [← Array.getElem?_toList, hlist]
      simp [hj]
    have hbl : b < s.heap.size := (Array.getElem?_eq_some_iff.mp hcb).1
    have hX : va_X b xs.length (fun j => xs.getD j 0) s s.heap := ⟨scr, hcb, hof, hkn, hsz, hval⟩
    have K : W p l e room_1 s m #[Value.ref b] below meth c s₁.heap [] 0 0 (lw_Z below #[Value.ref b] s) (entryFrame m ([Value.ref b] : List Value).toArray 8) := by
      rw [hh0]
      exact whole_start l hfl hbd ⟨B.exec, B.bytes, B.returns, hml, hown, hts, hX, hbl, B.notSynchronized, hgv⟩ (by have h9 := BodyLoose.noHandlers B (hts0 _ List.mem_cons_self); simpa using h9) (name_of_methodNamed B.named B.method).1
    obtain ⟨t, a1, o, b1, b2, b3⟩ := K s₁ rfl X₀
    exact ⟨t, o, a1, b1, b2, b3⟩
theorem lw_pre_spec {args : Array Value} {s : State} (h : (Jvm.Cond.and given_1 narrow_1).before args s = true) (hr : rest_1_c.before args s = true) : ∃ (b : Addr) (xs : List Int32), lw_P b xs args s := by
  have hs := flat_of_before _ h
  have hq := flat_of_before _ hr
  have hc : (Cond.count 1).before args s = true := hs _ (by decide +kernel)
  have harr : (Cond.arrayOf (.arg 0) .int).before args s = true := hs _ (by decide +kernel)
  have hle : (Cond.le (.length (.arg 0)) (.int 1536)).before args s = true := hs _ (by decide +kernel)
  have hlen : (Cond.isInt (.length (.arg 0))).before args s = true := hq _ (by decide +kernel)
  have hall : (Cond.all (.arg 0) (.isInt (.elem (.arg 0) (.index 0)))).before args s = true := hq _ (by decide +kernel)
  obtain ⟨b, xs, hb, hx⟩ := State.ints_of_pre rfl harr hlen hall
  have hsm : xs.length < 2 ^ 31 := hx.choose_spec.2.2.2
  have hev : (Term.length (.arg 0)).eval args s none [] s = some (.int xs.length.toInt32) := hx.length_eval hb
  have hv := Cond.le_ints hev (show (Term.int 1536).eval args s none [] s = some (.int 1536) from rfl)
  have hd : xs.length.toInt32 ≤ 1536 := by
    simpa [Cond.before, Cond.holds, hv] using hle
  have hN : xs.length ≤ 1536 := (Int32.ofNat_le_ofNat hsm (by decide)).mp (show Int32.ofNat xs.length ≤ Int32.ofNat 1536 from hd)
  exact ⟨b, xs, Cond.one_arg hc (show args[0]? = some (.ref b) from hb), hx, hN, h⟩
theorem lw_comes (l : Launch) (hfl : l.stackTraces = false) : Comes l x (Jvm.Cond.code x code maxLocals ret :: tables_1) room_1 (fun tb e args s => Calls_1 tb e args s ∧ rest_1 tb e args s ∧ Pre_1 tb e args s)
    (fun _ _ args s o t => lw_Q args s o t) := by
  intro p e ha hc hk s m args below hf hfit hheap happ hpre
  obtain ⟨b, xs, hP⟩ := lw_pre_spec hpre.2.2 hpre.2.1
  obtain ⟨k, o, h1, h2, h3, hQ⟩ := lw_walk l hfl b xs p e ha hc hk s m args below hf ((Spec.applies_iff_loose hf).mp happ).1 hP trivial
  exact ⟨k, o, h1, h2, h3, hQ⟩
theorem lw_frame {s t : State} {o : Outcome} {args : Array Value} (h : Framed s o t [] 601024 7293034) :
    Framed s o t (fieldLocs frame_1_writes args s ++ arrayLocs frame_1_arrays args s ++ staticLocs frame_1_statics s) 601024 7293034 := h
theorem lw_limb (L : Cond) (hL : ∀ (args : Array Value) (s t : State), L.after args s (.returned (some (.int 1))) t = true) :
    ArmFor flags0 classFile x code maxLocals ret World_1 tables_1 room_1 Calls_1 rest_1 Pre_1
      (fun tb e a s o t => postC L tb e a s o t ∧ Framed s o t (fieldLocs frame_1_writes a s ++ arrayLocs frame_1_arrays a s ++ staticLocs frame_1_statics s) 601024 7293034) := by
  intro l hfl _ _ p e ha hc hk s m args below hf hfit hheap happ hpre
  have hst : l.stackTraces = false := by unfold Launch.stackTraces; rw [hfl]; decide +kernel
  obtain ⟨k, o, h1, h2, h3, rfl, hF⟩ := lw_comes l hst p e ha hc hk s m args below hf hfit hheap happ hpre
  exact ⟨k, _, h1, h2, h3, hL args s _, lw_frame hF⟩
theorem i_vc : Claimed_1_1 ∧ Claimed_1_2 := ⟨lw_limb limb_1_1 (fun args s t => by simp [limb_1_1, Cond.after, Cond.holds, Cond.value]), lw_limb limb_1_2 (fun args s t => Cond.after_iff.mpr (by
  first | (rw [show limb_1_2 = Cond.eq .result (.int 1) from rfl, Cond.eq_ints (x := 1) (y := 1) rfl rfl]; simp; done) | (simp [limb_1_2, Cond.value, Term.eval]; done)))⟩
