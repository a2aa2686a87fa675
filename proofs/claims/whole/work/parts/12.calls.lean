/-! LAYER 2: contracts of methods that may throw; calls; the throw itself -/
def mx_Fr (st t : State) (L : List Loc) (k n : Nat) : Prop := st.WarmedH t.vm ∧ st.sameButNew ({ t with vm := st.vm } : State) L k n
def MetE (l : Launch) (y : MethodName) (ws : List Cond) (rm : Room) (Pc : Array Value → State → Prop) (Qc : Array Value → State → Outcome → State → Prop) (mc ms : Nat) (free : Addr → Prop) : Prop :=
  MetFree l y (headSpec ws rm) Pc (fun _ _ _ _ _ => True) (fun a st o t => Qc a st o t ∧ ∃ L, mx_Fr st t L mc ms ∧ ∀ q ∈ L, free q.base)
def mx_Q (below : List Frame) (Qc : Array Value → State → Outcome → State → Prop) (a : Array Value) (s : State) (mc ms : Nat) (free : Addr → Prop) : State → Prop := fun t =>
  ∃ o, t.status = .running ∧ Ended t below o ∧ Qc a s o t ∧ ∃ L, mx_Fr s t L mc ms ∧ ∀ q ∈ L, free q.base
theorem mx_Q.of {below : List Frame} {Qc : Array Value → State → Outcome → State → Prop} {a : Array Value} {s : State} {mc ms : Nat} {free : Addr → Prop} {t : State} (h : MQ below Qc a s mc ms free t) : mx_Q below Qc a s mc ms free t := by
  obtain ⟨o, h1, h2, h3, L, ⟨-, h5⟩, h6⟩ := h
  exact ⟨o, h1, h2, h3, L, h5, h6⟩
theorem MetE.ofW {l : Launch} {y : MethodName} {ws ws' : List Cond} {rm : Room} {Pc : Array Value → State → Prop} {Qc : Array Value → State → Outcome → State → Prop} {mc ms : Nat} {free : Addr → Prop} {cc : ByteArray} {maxL : Nat} {ret : Option FieldType}
    (hy : plainName y.cls = true) (hw : ws = Cond.code y cc maxL ret :: ws')
    (body : ∀ p e s m args below meth c s₁, BodyLoose p l y (headSpec ws rm) cc maxL ret e s m args below meth c s₁ → c.maxLocals = maxL → Pc args s →
      W p l e (headSpec ws rm).room s m args below meth c s.heap [] 0 0 (mx_Q below Qc args s mc ms free) (entryFrame m args maxL)) : MetE l y ws rm Pc Qc mc ms free := by
  refine MetFree.of_bodyS (code := cc) (maxLocals := maxL) (ret := ret) hy ?_ ?_
  · intro args s m h hn
    obtain ⟨meth, c, h1, h2, h3, h4, h5, h6, -, -⟩ := Cond.code_spec hn (atoms_spec (ws := ws) h _ (by rw [hw]; exact List.mem_cons_self))
    exact ⟨meth, c, h1, h2, h3, h4, h5, h6⟩
  · intro p e s m args below meth c s₁ B hml hP _
    have hh0 : s₁.heap = s.heap := by rw [B.state]; rfl
    obtain ⟨t, a1, o, b1, b2, b3⟩ := body p e s m args below meth c s₁ B hml hP s₁ hh0 (Stand.of_body B)
    exact ⟨t, o, a1, b1, b2, ⟨b3.1, b3.2⟩⟩
theorem MetE.ofWW {l : Launch} {y : MethodName} {ws ws' : List Cond} {rm : Room} {Pc : Array Value → State → Prop} {Qc : Array Value → State → Outcome → State → Prop} {mc ms : Nat} {free : Addr → Prop} {cc : ByteArray} {maxL : Nat} {ret : Option FieldType} {hh : List (Nat × Nat × Nat × Nat)}
    (hy : plainName y.cls = true) (hw : ws = Cond.codeWith y cc maxL ret hh :: ws')
    (body : ∀ p e s m args below meth c s₁, BodyLoose p l y (headSpec ws rm) cc maxL ret e s m args below meth c s₁ → c.maxLocals = maxL → Pc args s →
      W p l e (headSpec ws rm).room s m args below meth c s.heap [] 0 0 (mx_Q below Qc args s mc ms free) (entryFrame m args maxL)) : MetE l y ws rm Pc Qc mc ms free := by
  refine MetFree.of_bodyS (code := cc) (maxLocals := maxL) (ret := ret) hy ?_ ?_
  · intro args s m h hn
    obtain ⟨m9, meth, c, hn9, h1, h2, h3, h4, -, h5, h6, -⟩ := Cond.codeWith_spec (atoms_spec (ws := ws) h _ (by rw [hw]; exact List.mem_cons_self))
    cases hn.symm.trans hn9
    exact ⟨meth, c, h1, h2, h3, h4, h5, h6⟩
  · intro p e s m args below meth c s₁ B hml hP _
    have hh0 : s₁.heap = s.heap := by rw [B.state]; rfl
    obtain ⟨t, a1, o, b1, b2, b3⟩ := body p e s m args below meth c s₁ B hml hP s₁ hh0 (Stand.of_body B)
    exact ⟨t, o, a1, b1, b2, ⟨b3.1, b3.2⟩⟩
theorem mx_codeOf {y : MethodName} {maxL : Nat} {ws : List Cond} {a : Array Value} {U : State} (h : (∃ (b : ByteArray) (r : Option FieldType), Cond.code y b maxL r ∈ ws) ∨ (∃ (b : ByteArray) (r : Option FieldType) (hh : List (Nat × Nat × Nat × Nat)), Cond.codeWith y b maxL r hh ∈ ws)) (hws : ∀ w ∈ ws, w.before a U = true) :
    ∃ mk meth c, U.methodNamed? y = some mk ∧ U.vm.method? mk = some meth ∧ meth.code = some c ∧ c.maxLocals = maxL ∧ parseMethodDescriptor y.desc = some meth.sig := by
  rcases h with ⟨b, r, h⟩ | ⟨b, r, hh, h⟩
  · have h1 := hws _ h
    obtain ⟨mk, hn⟩ := Cond.code_named h1
    obtain ⟨meth, c, hm, hc, -, hl, -, -, -, hsig⟩ := Cond.code_spec hn h1
    exact ⟨mk, meth, c, hn, hm, hc, hl, hsig⟩
  · obtain ⟨mk, meth, c, hn, hm, hc, -, hl, -, -, -, hsig⟩ := Cond.codeWith_spec (hws _ h)
    exact ⟨mk, meth, c, hn, hm, hc, hl, hsig⟩
section MX1
variable {l : Launch} {R : Room} {p : Program} {e : Env} {below : List Frame} {s : State} {sargs : Array Value} {y : MethodName} {len Wt : Nat}
set_option maxHeartbeats 1000000 in
theorem mx_inv {ws : List Cond} {rm : Room} {Pc : Array Value → State → Prop} {Qc : Array Value → State → Outcome → State → Prop} {mc ms : Nat} {free : Addr → Prop} {maxL : Nat}
    (hM : MetE l y ws rm Pc Qc mc ms free) (hbl : FrameBlind Pc) (hrc : rm.cells = mc) (hrs : rm.slots = ms)
    (hfr : rm.frames + 1 ≤ R.frames) (hlo : Wt + (maxL + 11) + rm.locals ≤ R.locals)
    (hws : ∀ w ∈ ws, ∀ (a' : Array Value) (U : State), s.WarmedH U.vm → w.before a' U = true)
    {m : MethodId} {meth : Method} {c : Code} {U : State} {locs : List Loc} {cells slots : Nat} (X : Stand p l e R s m sargs below meth c U locs cells slots)
    {g : JFrame} {ig : Instr} {mk : MethodId} {a : Array Value} (hg : g.method = m) (hsize : g.locals.size = c.maxLocals) (hdg : decode c.code g.pc = .ok (ig, len))
    (hW : 2 * g.monitorRoom + (g.stack.map fun v => v.category).sum ≤ Wt) (hn : U.methodNamed? y = some mk)
    {methY : Method} {cY : Code} (hmY : U.vm.method? mk = some methY) (hcY : methY.code = some cY) (hlY : cY.maxLocals = maxL) (hini : (Cond.initialized y.cls).before a U = true)
    (hc : cells + mc ≤ R.cells) (hs : slots + ms ≤ R.slots) (hp : Pc a U) :
    ∃ (o : Outcome) (t U' : State) (L : List Loc), Stand p l e R s m sargs below meth c U' (locs ++ L) (cells + mc) (slots + ms) ∧ (∀ q ∈ L, free q.base) ∧ U'.heap = t.heap ∧ U'.vm = t.vm ∧ Qc a (U.calling g mk a) o t ∧
      ((∃ v, o = .returned v ∧ Steps p.tables e below (doInvoke e (U.setTop g) [] mk a).1 (U'.setTop { g with pc := g.pc + len, stack := v.toList ++ g.stack })) ∨
       (∃ x, o = .threw x ∧ Steps p.tables e below (doInvoke e (U.setTop g) [] mk a).1 ((U'.setTop g).pushFrame (.throwing x)))) := by
  obtain ⟨kY, hkY, -⟩ := className_of_methodNamed hn
  have hinitY : kY.init = .initialized := Cond.initialized_spec (findClass_of_methodNamed hn) hkY hini
  have h : At U g.method c below := by rw [hg]; exact X.here
  have h1 : (headSpec ws rm).pre.before a U = true := atoms_intro fun w hw => hws w hw _ _ X.warmed
  have hlo' : Wt + (maxL + 11) + (headSpec ws rm).room.locals ≤ R.locals := hlo
  have happ : (headSpec ws rm).appliesLoose y e.platform (U.calling g mk a) = true :=
    Spec.appliesLoose_calling (g := g) h hdg hn hkY hinitY
      (X.room_calling (g := g) (R' := (headSpec ws rm).room) hsize hmY hcY hfr (by rw [hlY]; omega) (by rw [show (headSpec ws rm).room.cells = mc from hrc]; exact hc) (by rw [show (headSpec ws rm).room.slots = ms from hrs]; exact hs)) h1
  obtain ⟨mid, hmid⟩ := h.above
  have hfr' : (U.setTop g).frames = (.java g :: mid) ++ below := by rw [State.frames_setTop' g h.top, hmid]; rfl
  obtain ⟨o, s₂, hsteps, -, hend, hq⟩ := Steps.callFree hM p X.admits X.cas X.clock (acts := []) hfr' happ (hbl _ _ _ _ hp) trivial
  have hq' : Qc a (U.calling g mk a) o s₂ ∧ ∃ L, mx_Fr (U.calling g mk a) s₂ L mc ms ∧ ∀ q ∈ L, free q.base := hq
  rw [State.frames_setTop' g h.top] at hend
  obtain ⟨hQ, L, ⟨hW₂, e2, q2, q3, q4, q5, q6⟩, hL⟩ := hq'
  have hW' : U.WarmedH s₂.vm := hW₂
  have e3 : s₂ = ({ (U.calling g mk a).setFrames s₂.frames with heap := s₂.heap, slotsUsed := s₂.slotsUsed } : State).setVm s₂.vm := by
    have : s₂ = ({ s₂ with vm := (U.calling g mk a).vm } : State).setVm s₂.vm := rfl
    rw [e2] at this
    exact this
  obtain ⟨g₀, hg0⟩ := Option.isSome_iff_exists.mp h.top
  obtain ⟨r, hr⟩ := State.topJava?_eq_some.mp hg0
  have hr' : (({ U with heap := s₂.heap, slotsUsed := s₂.slotsUsed } : State).setVm s₂.vm).frames = .java g₀ :: r := hr
  have hsame : U.sameButNew ({ U with heap := s₂.heap, slotsUsed := s₂.slotsUsed } : State) L mc ms := by
    refine ⟨?_, q2, q3, q4, q5, q6⟩
    obtain ⟨t, ht, -⟩ := State.frames_cons hr
    show ({ U with heap := s₂.heap, slotsUsed := s₂.slotsUsed } : State) = { U.setFrames U.frames with heap := s₂.heap, slotsUsed := s₂.slotsUsed }
    rw [State.setFrames_self ht]
  subst hg
  have XU : Stand p l e R s g.method sargs below meth c (({ U with heap := s₂.heap, slotsUsed := s₂.slotsUsed } : State).setVm s₂.vm) (locs ++ L) (cells + mc) (slots + ms) :=
    ⟨X.admits, X.cas, X.clock, X.frames, X.room, X.hears, X.method, X.code, (X.here.setHeapUsed s₂.heap s₂.slotsUsed).setVm hW'.alike, X.tail, State.WarmedH.trans X.warmed hW', X.limits, X.bytes, X.same.trans (hsame.setVm s.vm)⟩
  refine ⟨o, s₂, _, L, XU, hL, rfl, rfl, hQ, ?_⟩
  cases o with
  | returned v =>
    refine Or.inl ⟨v, rfl, ?_⟩
    obtain ⟨c₂, i₂, len₂, hc₂, hd₂, hf₂⟩ := hend
    have hcc : c₂ = c := by
      have h1 : s₂.code? g.method = U.code? g.method := by
        rw [State.code?_eq, State.code?_eq, hW'.alike.method?]
      exact Option.some.inj (hc₂.symm.trans (h1.trans h.code))
    subst hcc
    have hlen : len₂ = len := by rw [hdg] at hd₂; cases hd₂; rfl
    subst hlen
    have hs₂ : s₂ = (({ U with heap := s₂.heap, slotsUsed := s₂.slotsUsed } : State).setVm s₂.vm).setTop { g with pc := g.pc + len₂, stack := v.toList ++ g.stack } := by
      refine e3.trans ?_
      rw [hf₂, State.calling_eq h.top, State.setFrames_setFrames, State.setTop_of_frames _ hr', hr]
      rfl
    show Steps p.tables e below _ ((({ U with heap := s₂.heap, slotsUsed := s₂.slotsUsed } : State).setVm s₂.vm).setTop { g with pc := g.pc + len₂, stack := v.toList ++ g.stack })
    rw [← hs₂]
    exact hsteps
  | threw x =>
    refine Or.inr ⟨x, rfl, ?_⟩
    have hf₂ : s₂.frames = .throwing x :: .java g :: U.frames.tail := hend
    have hs₂ : s₂ = ((({ U with heap := s₂.heap, slotsUsed := s₂.slotsUsed } : State).setVm s₂.vm).setTop g).pushFrame (.throwing x) := by
      refine e3.trans ?_
      rw [hf₂, State.calling_eq h.top, State.setFrames_setFrames, State.pushFrame, State.frames_setTop _ hr', State.setTop_of_frames _ hr', State.setFrames_setFrames, hr]
      rfl
    show Steps p.tables e below _ (((({ U with heap := s₂.heap, slotsUsed := s₂.slotsUsed } : State).setVm s₂.vm).setTop g).pushFrame (.throwing x))
    rw [← hs₂]
    exact hsteps
end MX1
/-- a call: it comes back, or the note lies over the caller's frame -/
def mx_Run (p : Program) (l : Launch) (e : Env) (R : Room) (s : State) (m : MethodId) (args : Array Value) (below : List Frame) (meth : Method) (c : Code) (H : Heap) (locs : List Loc) (cells slots mc ms : Nat) (g : JFrame) (rest : List Value) (Qa : State → Outcome → State → Prop) (free : Addr → Prop) : Prop :=
  ∀ T : State, T.heap = H → Stand p l e R s m args below meth c T locs cells slots → ∃ (o : Outcome) (st₀ t T' : State) (L : List Loc), st₀.heap = H ∧ Stand p l e R s m args below meth c T' (locs ++ L) (cells + mc) (slots + ms) ∧ (∀ q ∈ L, free q.base) ∧ T'.heap = t.heap ∧ T'.vm = t.vm ∧ Qa st₀ o t ∧
    ((∃ v, o = .returned v ∧ ∀ target, Steps p.tables e below (T'.setTop { g with pc := g.pc + 3, stack := v.toList ++ rest }) target → Steps p.tables e below (T.setTop g) target) ∨
     (∃ x, o = .threw x ∧ Steps p.tables e below (T.setTop g) ((T'.setTop { g with stack := rest }).pushFrame (.throwing x))))
/-- the words of a call -/
def mx_B (R : Room) (s : State) (args : Array Value) (own : String) (index : Nat) (y : MethodName) (maxL : Nat) (ws : List Cond) (rm : Room) (mc ms n : Nat) : Prop :=
  rm.cells = mc ∧ rm.slots = ms ∧ rm.frames + 1 ≤ R.frames ∧ 20 + (maxL + 11) + rm.locals ≤ R.locals ∧ (∀ w ∈ ws, ∀ (a' : Array Value) (U : State), s.WarmedH U.vm → w.before a' U = true) ∧
  ((∃ (b : ByteArray) (r : Option FieldType), Cond.code y b maxL r ∈ ws) ∨ (∃ (b : ByteArray) (r : Option FieldType) (hh : List (Nat × Nat × Nat × Nat)), Cond.codeWith y b maxL r hh ∈ ws)) ∧
  (Cond.initialized y.cls).before args s = true ∧ (y.cls ≠ "java/lang/invoke/MethodHandle" ∧ y.cls ≠ "java/lang/invoke/VarHandle") ∧ (∀ sig, parseMethodDescriptor y.desc = some sig → n = sig.parameters.length) ∧ (Cond.methodLink own index y).before args s = true
section MX2
variable {p : Program} {l : Launch} {e : Env} {R : Room} {s : State} {m : MethodId} {args : Array Value} {below : List Frame} {meth : Method} {c : Code} {H : Heap} {locs : List Loc} {cells slots : Nat}
  {ws : List Cond} {cc : ByteArray} {maxL index n mc ms : Nat} {own C : String} {y : MethodName} {rm : Room} {Pc : Array Value → State → Prop} {Qc : Array Value → State → Outcome → State → Prop} {free : Addr → Prop}
  {b : Addr} {As rest : List Value} {g : JFrame}
theorem mx_runV (hexec : p.tables.exec = Jvm.exec) (hb : c.code = cc) (hown : s.vm.findClass own = some m.cls) (hM : MetE l y ws rm Pc Qc mc ms free) (cw : mx_B R s args own index y maxL ws rm mc ms n) (hinst : (Cond.instanceMethod y).before args s = true) (hsel : (Cond.selects C y y).before args s = true) (hbl : FrameBlind Pc)
    (hrecv : ∃ cellB : Cell, H[b]? = some cellB ∧ cellB.vm.isStatics = false ∧ s.vm.findClass C = some cellB.cls) (hPc : ∀ U : State, U.heap = H → s.WarmedH U.vm → Pc (Value.ref b :: As).toArray U)
    (hg : g.method = m) (hn : As.length = n) (hsize : g.locals.size = c.maxLocals) (hstack : g.stack = As.reverse ++ .ref b :: rest) (hW : 2 * g.monitorRoom + (rest.map fun v => v.category).sum ≤ 20) (hdg : decode cc g.pc = .ok (.invokevirtual index, 3)) (hf : cells + mc ≤ R.cells ∧ slots + ms ≤ R.slots) :
    mx_Run p l e R s m args below meth c H locs cells slots mc ms g rest (Qc (Value.ref b :: As).toArray) free := by
  intro T hT X
  obtain ⟨hrc, hrs, hfr, hlo, hws, hcode, hini, hy, hlen, hl⟩ := cw
  obtain ⟨mk, methM, hnamed, hmethM, hstM, habM⟩ := Cond.instanceMethod_spec hinst
  obtain ⟨mk', methM', cM, hn', hmM', hcM, hlM, hsigM⟩ := mx_codeOf hcode (fun w hw => hws w hw args s (State.WarmedH.refl s))
  cases hnamed.symm.trans hn'
  cases hmethM.symm.trans hmM'
  obtain ⟨c2, r2, m2, q1, q2, q3, q4, kP, hkP, hkPi⟩ := Cond.selects_spec hsel
  obtain ⟨cellB, hcB, hoB, hclB⟩ := hrecv
  cases hclB.symm.trans q1
  cases (State.methodFound?_of_named hnamed hy).symm.trans q2
  cases hnamed.symm.trans q3
  have hselP : selectMethod e.platform s.vm cellB.cls mk = .method mk := by rw [Launch.admits_selectMethod X.admits]; exact q4
  obtain ⟨vm₁, X₁, hstep₁⟩ := X.invokevirtual hexec hown hl hnamed hmethM hstM hkP hkPi hy (a := b) (cell := cellB) (by rw [hT]; exact hcB)
    (fun z h => by rw [h] at hoB; cases hoB) hselP hmethM habM hkP hkPi (g := g) hg (argsL := As) (rest := rest) (hn.trans (hlen _ hsigM)) hstack (by rw [hb]; exact hdg)
  have hwU : s.WarmedH (T.setVm vm₁).vm := X₁.warmed
  obtain ⟨mkU, methU, cU, hnU, hmU, hcU, hlU, -⟩ := mx_codeOf hcode (fun w hw => hws w hw args (T.setVm vm₁) hwU)
  have hnU' := X₁.named hnamed
  cases hnU'.symm.trans hnU
  obtain ⟨o, t, U', L, XU, hL, e1, e2, hQ, hor⟩ := mx_inv hM hbl hrc hrs hfr hlo hws X₁ (g := { g with stack := rest }) (ig := .invokevirtual index) (len := 3) (a := (Value.ref b :: As).toArray) hg hsize (by rw [hb]; exact hdg) hW hnU hmU hcU hlU
    (word_at hwU (Or.inl (by first | rfl | simp [Cond.onTables, Cond.keeps, Cond.steady])) hini) hf.1 hf.2 (hPc (T.setVm vm₁) hT hwU)
  refine ⟨o, (T.setVm vm₁).calling { g with stack := rest } _ (Value.ref b :: As).toArray, t, U', L, hT, XU, hL, e1, e2, hQ, ?_⟩
  rcases hor with ⟨v, rfl, st⟩ | ⟨x, rfl, st⟩
  · exact Or.inl ⟨v, rfl, fun target h => hstep₁ _ fun acts => by rw [doInvoke_state]; exact st.trans h⟩
  · exact Or.inr ⟨x, rfl, hstep₁ _ fun acts => by rw [doInvoke_state]; exact st⟩
theorem mx_runS (hexec : p.tables.exec = Jvm.exec) (hb : c.code = cc) (hown : s.vm.findClass own = some m.cls) (hM : MetE l y ws rm Pc Qc mc ms free) (cw : mx_B R s args own index y maxL ws rm mc ms n) (hstat : (Cond.static y).before args s = true) (hbl : FrameBlind Pc)
    (hPc : ∀ U : State, U.heap = H → s.WarmedH U.vm → Pc As.toArray U)
    (hg : g.method = m) (hn : As.length = n) (hsize : g.locals.size = c.maxLocals) (hstack : g.stack = As.reverse ++ rest) (hW : 2 * g.monitorRoom + (rest.map fun v => v.category).sum ≤ 20) (hdg : decode cc g.pc = .ok (.invokestatic index, 3)) (hf : cells + mc ≤ R.cells ∧ slots + ms ≤ R.slots) :
    mx_Run p l e R s m args below meth c H locs cells slots mc ms g rest (Qc As.toArray) free := by
  intro T hT X
  obtain ⟨hrc, hrs, hfr, hlo, hws, hcode, hini, hy, hlen, hl⟩ := cw
  obtain ⟨mk, methM, cM, hnamed, hmethM, hcM, hlM, hsigM⟩ := mx_codeOf hcode (fun w hw => hws w hw args s (State.WarmedH.refl s))
  have hstatic : methM.isStatic = true := Cond.static_spec hnamed hmethM hstat
  obtain ⟨kP, hkP, -⟩ := className_of_methodNamed hnamed
  have hinitP : kP.init = .initialized := Cond.initialized_spec (findClass_of_methodNamed hnamed) hkP hini
  obtain ⟨vm₁, X₁, hstep₁⟩ := X.invokestatic hexec hown hl hnamed hmethM hstatic hkP hinitP hy (g := g) hg (argsL := As) (rest := rest) (hn.trans (hlen _ hsigM)) hstack (by rw [hb]; exact hdg)
  have hwU : s.WarmedH (T.setVm vm₁).vm := X₁.warmed
  obtain ⟨mkU, methU, cU, hnU, hmU, hcU, hlU, -⟩ := mx_codeOf hcode (fun w hw => hws w hw args (T.setVm vm₁) hwU)
  have hnU' := X₁.named hnamed
  cases hnU'.symm.trans hnU
  obtain ⟨o, t, U', L, XU, hL, e1, e2, hQ, hor⟩ := mx_inv hM hbl hrc hrs hfr hlo hws X₁ (g := { g with stack := rest }) (ig := .invokestatic index) (len := 3) (a := As.toArray) hg hsize (by rw [hb]; exact hdg) hW hnU hmU hcU hlU
    (word_at hwU (Or.inl (by first | rfl | simp [Cond.onTables, Cond.keeps, Cond.steady])) hini) hf.1 hf.2 (hPc (T.setVm vm₁) hT hwU)
  refine ⟨o, (T.setVm vm₁).calling { g with stack := rest } _ As.toArray, t, U', L, hT, XU, hL, e1, e2, hQ, ?_⟩
  rcases hor with ⟨v, rfl, st⟩ | ⟨x, rfl, st⟩
  · exact Or.inl ⟨v, rfl, fun target h => hstep₁ _ fun acts => by rw [doInvoke_state]; exact st.trans h⟩
  · exact Or.inr ⟨x, rfl, hstep₁ _ fun acts => by rw [doInvoke_state]; exact st⟩
theorem mx_runI {bytes : ByteArray} (hexec : p.tables.exec = Jvm.exec) (hb : c.code = cc) (hown : s.vm.findClass own = some m.cls) (hM : MetE l y ws rm Pc Qc mc ms free) (cw : mx_B R s args own index y maxL ws rm mc ms n) (hinst : (Cond.instanceMethod y).before args s = true) (hcod : (Cond.code y bytes maxL none).before args s = true) (hy1 : y.name = "<init>") (hbl : FrameBlind Pc)
    (hPc : ∀ U : State, U.heap = H → s.WarmedH U.vm → Pc (Value.ref b :: As).toArray U)
    (hg : g.method = m) (hn : As.length = n) (hsize : g.locals.size = c.maxLocals) (hstack : g.stack = As.reverse ++ .ref b :: rest) (hW : 2 * g.monitorRoom + (rest.map fun v => v.category).sum ≤ 20) (hdg : decode cc g.pc = .ok (.invokespecial index, 3)) (hf : cells + mc ≤ R.cells ∧ slots + ms ≤ R.slots) :
    mx_Run p l e R s m args below meth c H locs cells slots mc ms g rest (Qc (Value.ref b :: As).toArray) free := by
  intro T hT X
  obtain ⟨hrc, hrs, hfr, hlo, hws, hcode, hini, hy, hlen, hl⟩ := cw
  subst hg
  have hpl : e.platform.magicAccessors = ({} : Platform).magicAccessors := by rw [X.admits.platform]
  obtain ⟨mk, methM, cM, kP, vm₁, hnamed, hmethM, hcodeM, -, hlocalsM, -, hkP, -, hW₁, hstep₁⟩ := Steps.initColdArgs (e := e) X.here hexec X.warmed hpl hown hy1 hy hl hinst hcod (f := g) rfl (fun sig h => hn.trans (hlen sig h)) hstack (by rw [hb]; exact hdg)
  have X₁ := X.noted hW₁
  have hwU : s.WarmedH (T.setVm vm₁).vm := X₁.warmed
  obtain ⟨mkU, methU, cU, hnU, hmU, hcU, hlU, -⟩ := mx_codeOf hcode (fun w hw => hws w hw args (T.setVm vm₁) hwU)
  have hnU' := X₁.named hnamed
  cases hnU'.symm.trans hnU
  obtain ⟨o, t, U', L, XU, hL, e1, e2, hQ, hor⟩ := mx_inv hM hbl hrc hrs hfr hlo hws X₁ (g := { g with stack := rest }) (ig := .invokespecial index) (len := 3) (a := (Value.ref b :: As).toArray) rfl hsize (by rw [hb]; exact hdg) hW hnU hmU hcU hlU
    (word_at hwU (Or.inl (by first | rfl | simp [Cond.onTables, Cond.keeps, Cond.steady])) hini) hf.1 hf.2 (hPc (T.setVm vm₁) hT hwU)
  refine ⟨o, (T.setVm vm₁).calling { g with stack := rest } _ (Value.ref b :: As).toArray, t, U', L, hT, XU, hL, e1, e2, hQ, ?_⟩
  rcases hor with ⟨v, rfl, st⟩ | ⟨x, rfl, st⟩
  · exact Or.inl ⟨v, rfl, fun target h => hstep₁ _ fun acts => by rw [doInvoke_state]; exact st.trans h⟩
  · exact Or.inr ⟨x, rfl, hstep₁ _ fun acts => by rw [doInvoke_state]; exact st⟩
end MX2
/-- how a method ends, in the map world: it returns v, the map is M'; or it throws an E, and the map is as it was -/
def mw_Qx (D : va_G) (cl : List vw_C) (M : mw_M) (post : Option Value → mw_M → Prop) (thr : String → Prop) (A : Nat → Prop) : Array Value → State → Outcome → State → Prop := fun _ st oc t =>
  ((∃ v M', oc = .returned v ∧ post v M' ∧ mw_P D cl M' t.heap) ∨ (∃ (x : Addr) (E : String) (cell : Cell), oc = .threw x ∧ thr E ∧ t.heap[x]? = some cell ∧ cell.vm.isStatics = false ∧ t.vm.findClass E = some cell.cls ∧ mw_P D cl M t.heap)) ∧ va_F A st t
def mw_Pc (D : va_G) (cl : List vw_C) (tys : List (ClassId × FieldType)) (zs : List (String × String × String × Value)) (fl : List (String × String × String)) (ks : List (String × Nat × String × Nat)) (A : Nat → Prop) (sz : Nat) (M : mw_M) (av : List Value) : Array Value → State → Prop :=
  va_Pc av (fun U => U.heap.size = sz ∧ mw_P D cl M U.heap ∧ mw_E D cl tys zs fl ks A U)
theorem mw_blind (D : va_G) (cl : List vw_C) (tys : List (ClassId × FieldType)) (zs : List (String × String × String × Value)) (fl : List (String × String × String)) (ks : List (String × Nat × String × Nat)) (A : Nat → Prop) (sz : Nat) (M : mw_M) (av : List Value) : FrameBlind (mw_Pc D cl tys zs fl ks A sz M av) := by
  intro a U g mk q
  obtain ⟨q0, q1, qP, qE⟩ := q
  exact ⟨q0, q1, qP, qE.frame rfl rfl⟩
/-- the machine with the note 'x is thrown' over the frame g -/
def WT (p : Program) (l : Launch) (e : Env) (R : Room) (s : State) (m : MethodId) (args : Array Value) (below : List Frame) (meth : Method) (c : Code) (H : Heap) (locs : List Loc) (cells slots : Nat) (Q : State → Prop) (g : JFrame) (x : Addr) : Prop :=
  ∀ T : State, T.heap = H → Stand p l e R s m args below meth c T locs cells slots → ∃ t, Steps p.tables e below ((T.setTop g).pushFrame (.throwing x)) t ∧ Q t
section MX3
variable {p : Program} {l : Launch} {e : Env} {R : Room} {s : State} {m : MethodId} {args : Array Value} {below : List Frame} {meth : Method} {c : Code} {H : Heap} {locs : List Loc} {cells slots : Nat} {Q : State → Prop}
variable {cc : ByteArray} {pc : Nat} {ls : Array Slot} {rest st0 : List Value} {D : va_G} {cl : List vw_C} {A : Nat → Prop} {tys : List (ClassId × FieldType)} {M : mw_M} {mc ms : Nat} {a : Array Value}
theorem mx_call {post : Option Value → mw_M → Prop} {thr : String → Prop}
    (hr : mx_Run p l e R s m args below meth c H locs cells slots mc ms (F0 m pc ls st0) rest (mw_Qx D cl M post thr A a) A) (hS : va_S A s.heap H locs)
    (kk : ∀ (v : Option Value) (M' : mw_M) (H1 : Heap) (locs1 : List Loc), post v M' → mw_P D cl M' H1 → H.size ≤ H1.size → va_S A s.heap H1 locs1 → W p l e R s m args below meth c H1 locs1 (cells + mc) (slots + ms) Q (F0 m (pc + 3) ls (v.toList ++ rest)))
    (kt : ∀ (x : Addr) (E : String) (cell : Cell) (H1 : Heap) (locs1 : List Loc), thr E → H1[x]? = some cell → cell.vm.isStatics = false → s.vm.findClass E = some cell.cls → mw_P D cl M H1 → H.size ≤ H1.size → va_S A s.heap H1 locs1 → WT p l e R s m args below meth c H1 locs1 (cells + mc) (slots + ms) Q (F0 m pc ls rest) x) :
    W p l e R s m args below meth c H locs cells slots Q (F0 m pc ls st0) := by
  intro T hT X
  obtain ⟨o, st₀, t, T', L, h0, X', hL, e1, e2, ⟨hq, hz, hk⟩, hor⟩ := hr T hT X
  rw [h0] at hz hk
  have hS1 : va_S A s.heap T'.heap (locs ++ L) := ⟨Nat.le_trans hS.1 (by rw [e1]; exact hz), fun q h1 h2 => by rw [e1, hk q (Nat.lt_of_lt_of_le h1 hS.1) h2]; exact hS.2.1 q h1 h2, fun q hq => by
      rcases List.mem_append.mp hq with h | h
      · exact hS.2.2 q h
      · exact hL q h⟩
  have hz1 : H.size ≤ T'.heap.size := by rw [e1]; exact hz
  rcases hor with ⟨v, rfl, st⟩ | ⟨x, rfl, st⟩
  · rcases hq with ⟨v', M', hv, hp, hP⟩ | ⟨x, E, cell, hv, -⟩
    · cases hv
      obtain ⟨t2, a1, b1⟩ := kk v M' T'.heap (locs ++ L) hp (by rw [e1]; exact hP) hz1 hS1 T' rfl X'
      exact ⟨t2, st t2 a1, b1⟩
    · cases hv
  · rcases hq with ⟨v', M', hv, -⟩ | ⟨x', E, cell, hv, hE, hx, ho, hf, hP⟩
    · cases hv
    · cases hv
      have hf' : s.vm.findClass E = some cell.cls := by rw [← X'.warmed.alike.findClass, e2]; exact hf
      obtain ⟨t2, a1, b1⟩ := kt x E cell T'.heap (locs ++ L) hE (by rw [e1]; exact hx) ho hf' (by rw [e1]; exact hP) hz1 hS1 T' rfl X'
      exact ⟨t2, st.trans a1, b1⟩
/-- no handler here: the method throws it on -/
theorem mx_out {M0 : mw_M} {post0 : Option Value → mw_M → Prop} {thr0 : String → Prop} {mc0 ms0 : Nat} (hno : c.exceptionTable.isEmpty = true) (hlocks : meth.locks = false) {g : JFrame} (hg : g.method = m) (hlk : g.locked = none) (hen : g.entered = []) {x : Addr} {E : String} {cell : Cell} (hE : thr0 E) (hx : H[x]? = some cell) (ho : cell.vm.isStatics = false) (hf : s.vm.findClass E = some cell.cls) (hP : mw_P D cl M0 H) (hS : va_S A s.heap H locs) (h1 : cells ≤ mc0) (h2 : slots ≤ ms0) :
    WT p l e R s m args below meth c H locs cells slots (mx_Q below (mw_Qx D cl M0 post0 thr0 A) args s mc0 ms0 A) g x := by
  intro T hT X
  have X2 := stand_widen X h1 h2
  have hout : ∀ y ∈ c.exceptionTable.toList, covers y g.pc = false := by
    have h0 : c.exceptionTable.size = 0 := by simpa [Array.isEmpty] using hno
    have h3 : c.exceptionTable.toList = [] := List.eq_nil_of_length_eq_zero (by simpa using h0)
    intro y hy
    rw [h3] at hy
    cases hy
  obtain ⟨w1, w2, w3, w4, w5⟩ := X2.leaveThrown x (g := g) hg hlk hen hout hlocks
  have hTh : (T.setFrames (.throwing x :: below)).heap = H := hT
  refine ⟨_, w1, .threw x, w2, w3, ⟨Or.inr ⟨x, E, cell, rfl, hE, by rw [hTh]; exact hx, ho, ?_, by rw [hTh]; exact hP⟩, hS.F hTh⟩, locs, ⟨w4, w5⟩, hS.2.2⟩
  rw [w4.alike.findClass]
  exact hf
theorem mx_ret {M0 : mw_M} {post0 : Option Value → mw_M → Prop} {thr0 : String → Prop} {free : Addr → Prop} {g : JFrame} (k : W p l e R s m args below meth c H locs cells slots (MQ below (mw_Qx D cl M0 post0 thr0 A) args s cells slots free) g) : W p l e R s m args below meth c H locs cells slots (mx_Q below (mw_Qx D cl M0 post0 thr0 A) args s cells slots free) g := fun T hT X => by
  obtain ⟨t, a1, b1⟩ := k T hT X
  exact ⟨t, a1, mx_Q.of b1⟩
theorem mx_iret {M0 M' : mw_M} {post0 : Option Value → mw_M → Prop} {thr0 : String → Prop} {v : Int32} (hexec : p.tables.exec = Jvm.exec) (hb : c.code = cc) (hr : meth.sig.returnType = some .int) (hlocks : meth.locks = false) (hP : mw_P D cl M' H) (hS : va_S A s.heap H locs) (hp : post0 (some (.int v)) M') (hdg : decode cc pc = .ok (.ireturn, 1)) {mc0 ms0 : Nat} (h1 : cells ≤ mc0) (h2 : slots ≤ ms0) :
    W p l e R s m args below meth c H locs cells slots (mx_Q below (mw_Qx D cl M0 post0 thr0 A) args s mc0 ms0 A) (F0 m pc ls [.int v]) :=
  W.widen h1 h2 (mx_ret (W.iret (v := v) hexec hb hr (fun t ht hW => ⟨Or.inl ⟨_, M', rfl, hp, by rw [ht]; exact hP⟩, hS.F ht⟩) hS.2.2 hdg hlocks))
theorem mx_zret {M0 M' : mw_M} {post0 : Option Value → mw_M → Prop} {thr0 : String → Prop} {v : Int32} {ty : FieldType} (hexec : p.tables.exec = Jvm.exec) (hb : c.code = cc) (hr : meth.sig.returnType = some ty) (hn : narrow ty (.int v) = .int v) (hlocks : meth.locks = false) (hP : mw_P D cl M' H) (hS : va_S A s.heap H locs) (hp : post0 (some (.int v)) M') (hdg : decode cc pc = .ok (.ireturn, 1)) {mc0 ms0 : Nat} (h1 : cells ≤ mc0) (h2 : slots ≤ ms0) :
    W p l e R s m args below meth c H locs cells slots (mx_Q below (mw_Qx D cl M0 post0 thr0 A) args s mc0 ms0 A) (F0 m pc ls [.int v]) :=
  W.widen h1 h2 (mx_ret (W.zret (v := v) hexec hb hr hn (fun t ht hW => ⟨Or.inl ⟨_, M', rfl, hp, by rw [ht]; exact hP⟩, hS.F ht⟩) hS.2.2 hdg hlocks))
theorem mx_vret {M0 M' : mw_M} {post0 : Option Value → mw_M → Prop} {thr0 : String → Prop} (hexec : p.tables.exec = Jvm.exec) (hb : c.code = cc) (hr : meth.sig.returnType = none) (hlocks : meth.locks = false) (hP : mw_P D cl M' H) (hS : va_S A s.heap H locs) (hp : post0 none M') (hdg : decode cc pc = .ok (.return_, 1)) {mc0 ms0 : Nat} (h1 : cells ≤ mc0) (h2 : slots ≤ ms0) :
    W p l e R s m args below meth c H locs cells slots (mx_Q below (mw_Qx D cl M0 post0 thr0 A) args s mc0 ms0 A) (F0 m pc ls []) :=
  W.widen h1 h2 (mx_ret (W.vret hexec hb hr (fun t ht hW => ⟨Or.inl ⟨_, M', rfl, hp, by rw [ht]; exact hP⟩, hS.F ht⟩) hS.2.2 hdg hlocks))
theorem mx_aret {M0 M' : mw_M} {post0 : Option Value → mw_M → Prop} {thr0 : String → Prop} {q : Nat} {rt : FieldType} (hexec : p.tables.exec = Jvm.exec) (hb : c.code = cc) (hr : meth.sig.returnType = some rt) (hrt : (∃ n, rt = .object n) ∨ ∃ t, rt = .array t) (hlocks : meth.locks = false) (hP : mw_P D cl M' H) (hS : va_S A s.heap H locs) (hp : post0 (some (.ref q)) M') (hdg : decode cc pc = .ok (.areturn, 1)) {mc0 ms0 : Nat} (h1 : cells ≤ mc0) (h2 : slots ≤ ms0) :
    W p l e R s m args below meth c H locs cells slots (mx_Q below (mw_Qx D cl M0 post0 thr0 A) args s mc0 ms0 A) (F0 m pc ls [.ref q]) :=
  W.widen h1 h2 (mx_ret (W.aret hexec hb hr hrt (Or.inr ⟨q, rfl⟩) (fun t ht hW => ⟨Or.inl ⟨_, M', rfl, hp, by rw [ht]; exact hP⟩, hS.F ht⟩) hS.2.2 hdg hlocks))
/-- 'throw new E("..")' in a method without handlers: new; dup; ldc; invokespecial; athrow (after the task's vx_throwS) -/
theorem mx_throw {post0 : Option Value → mw_M → Prop} {thr0 : String → Prop} {mc0 ms0 : Nat} (hexec : p.tables.exec = Jvm.exec) (hb : c.code = cc) (htr : l.stackTraces = false) (hno : c.exceptionTable.isEmpty = true) (hlocks : meth.locks = false) (hml : ls.size = c.maxLocals)
    {own E tx : String} {names : List String} {iN iS ic q : Nat} (hown : s.vm.findClass own = some m.cls) (hfit : Bundle.fit E = true) (hnames : ∀ n ∈ names, Bundle.fit n = true)
    (hat : ∀ U : State, s.WarmedH U.vm → mw_L Bundle.tN "UNASSIGNED_STACK" Bundle.steD A U → mw_L Bundle.tN "SUPPRESSED_SENTINEL" Bundle.listD A U → (∀ w ∈ Bundle.ownAtoms own ic E names, w.before args U = true) ∧ (Cond.classLink own iN E).before args U = true ∧ (Cond.initialized E).before args U = true) (hZ : vk_R own iS tx q s)
    (hU : mw_L Bundle.tN "UNASSIGNED_STACK" Bundle.steD A s) (hN : mw_L Bundle.tN "SUPPRESSED_SENTINEL" Bundle.listD A s) (hS : va_S A s.heap H locs)
    (hd0 : decode cc pc = .ok (.new iN, 3)) (hd3 : decode cc (pc + 3) = .ok (.dup, 1)) (hd4 : decode cc (pc + 4) = .ok (.ldc iS, 2)) (hd6 : decode cc (pc + 6) = .ok (.invokespecial ic, 3)) (hd9 : decode cc (pc + 9) = .ok (.athrow, 1))
    (hP : mw_P D cl M H) (hRf : names.length + 3 < R.frames) (hRl : (st0.map fun v => v.category).sum + (13 * (names.length + 1) + 43) ≤ R.locals) (hRc : cells + 1 ≤ R.cells) (hRs : slots + 6 ≤ R.slots) (hthr : thr0 E) (h1 : cells + 1 ≤ mc0) (h2 : slots + 6 ≤ ms0) :
    W p l e R s m args below meth c H locs cells slots (mx_Q below (mw_Qx D cl M post0 thr0 A) args s mc0 ms0 A) (F0 m pc ls st0) := by
  intro T hT X
  have htr9 : e.platform.stackTraces = false := (show e.platform.stackTraces = l.stackTraces by rw [X.admits.platform]).trans htr
  have Y := vx_rebase X (R' := { frames := R.frames, locals := R.locals, cells := 1, slots := 6 }) (Nat.le_refl _) (Nat.le_refl _) hRc hRs
  obtain ⟨s', hA⟩ : ∃ z, z = (T.setVm s.vm).setFrames (.invoking m args :: below) := ⟨_, rfl⟩
  rw [← hA] at Y
  have hvm : s'.vm = s.vm := by rw [hA]; rfl
  have hhp : s'.heap = H := by rw [hA]; exact hT
  have hW0 : s.WarmedH s'.vm := by rw [hvm]; exact State.WarmedH.refl s
  obtain ⟨h, hk', hini'⟩ := hat s' hW0 (hU.go hS hhp hW0.alike) (hN.go hS hhp hW0.alike)
  have hown' : s'.vm.findClass own = some m.cls := by rw [hvm]; exact hown
  have hins : (Cond.instantiable E 6).before args s' = true := h _ (by simp [Bundle.ownAtoms])
  obtain ⟨vm₁, cX, kX, hfX, hkX, -, -, X₁, st1⟩ := Y.newCold hexec (own := own) (C := E) (index := iN) (n := 6) hown' hk' hins hini'
    (g := F0 m pc ls st0) rfl (by rw [hb]; exact hd0) (Nat.le_refl _) (Nat.le_refl _)
  generalize hT1 : (T.setVm vm₁).pushCell { cls := cX, slots := kX.instanceTypes.map defaultValue, vm := .none } = T1 at X₁ st1
  have hcat : (Value.ref T.heap.size).category = 1 := rfl
  have hcellA : T1.heap[T.heap.size]? = some (freshCell cX kX) := by rw [← hT1]; exact State.heap_pushCell_size _ _
  have d3' : decode c.code (pc + 3) = .ok (.dup, 1) := by rw [hb]; exact hd3
  have d4' : decode c.code (pc + 4) = .ok (.ldc iS, 2) := by rw [hb]; exact hd4
  have hstr' : vk_R own iS tx q s' := vk_R.warm hW0 hZ
  have hout : ∀ y ∈ c.exceptionTable.toList, covers y (pc + 9) = false := by
    have h0 : c.exceptionTable.size = 0 := by simpa [Array.isEmpty] using hno
    have h3 : c.exceptionTable.toList = [] := List.eq_nil_of_length_eq_zero (by simpa using h0)
    intro y hy
    rw [h3] at hy
    cases hy
  obtain ⟨U, hsteps, hrun, hend, hW, hsame, ce, hce, hO⟩ := X₁.ctorThrowS hexec htr9 (own := own) (cls := E) (names := names) (ic := ic) hown' hfit hnames h (fun x hx => nomatch hx) hfX hkX hcellA (by rw [hhp, hT]; exact Nat.le_refl _) (msg := .ref q) rfl
    (g := { method := m, pc := pc + 6, locals := ls, stack := .ref q :: .ref T.heap.size :: .ref T.heap.size :: st0, locked := none }) rfl hml rfl rfl (rest := st0) rfl
    (by rw [hb]; exact hd6) (by rw [hb]; exact hd9) hout hRf (by simp only [List.map_cons, List.sum_cons, hcat]; omega) hlocks
  obtain ⟨f1, f2⟩ := vx_frame hsame
  rw [hhp] at f1 f2
  have hq : ∀ b : Nat, b < H.size → U.heap[b]? = H[b]? := fun b hb9 => f2 b hb9 (fun z hz => nomatch hz)
  have hWs : s.WarmedH U.vm := State.WarmedH.trans hW0 hW
  have hcl : s.vm.findClass E = some ce.cls := by
    have h9 := hO.cls
    rw [hvm] at h9
    exact h9
  have hall : s.sameButNew ({ U with vm := s.vm } : State) locs mc0 ms0 := by
    subst hA
    obtain ⟨e1, e2⟩ := hsame
    rw [State.setFrames_setFrames] at e1
    have h2 : (T.setVm s.vm).sameButNew ({ U with vm := s.vm } : State) [] (0 + 1) (0 + 6) := ⟨e1, e2⟩
    have h3 := X.same.trans h2
    rw [List.append_nil] at h3
    exact State.sameButNew.mono h3 (by omega) (by omega)
  refine ⟨U, ?_, .threw T.heap.size, hrun, hend, ⟨Or.inr ⟨T.heap.size, E, ce, rfl, hthr, hce, by rw [hO.vm]; rfl, by rw [hWs.alike.findClass]; exact hcl, hP.kept hq⟩, ⟨Nat.le_trans hS.1 f1, fun b h _ => ?_⟩⟩, locs, ⟨hWs, hall⟩, hS.2.2⟩
  · refine st1 _ ?_
    show Steps p.tables e below (T1.setTop { method := m, pc := pc + 3, locals := ls, stack := .ref T.heap.size :: st0, locked := none }) _
    jvm_step X₁.here [X₁.here.top, hexec, d3', Value.category]
    exact X₁.ldcString hexec (own := own) (text := tx) (index := iS) (a := q) hown' hstr'.1 hstr'.2
      (g := { method := m, pc := pc + 4, locals := ls, stack := .ref T.heap.size :: .ref T.heap.size :: st0, locked := none }) rfl d4' _ hsteps
  · rename_i hA9
    exact (hq b (Nat.lt_of_lt_of_le h hS.1)).trans (hS.2.1 b h hA9)
end MX3
