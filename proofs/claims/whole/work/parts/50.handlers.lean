/-! methods with a table of handlers: how they are called, and how they catch -/
section KH
theorem kh_ofW {l : Launch} {y : MethodName} {ws ws' : List Cond} {rm : Room} {Pc : Array Value → State → Prop} {Qc : Array Value → State → Outcome → State → Prop} {mc ms : Nat} {free : Addr → Prop} {cc : ByteArray} {maxL : Nat} {ret : Option FieldType} {hs : List (Nat × Nat × Nat × Nat)}
    (hy : plainName y.cls = true) (hw : ws = Cond.codeWith y cc maxL ret hs :: ws')
    (body : ∀ p e s m args below meth c s₁, BodyLoose p l y (headSpec ws rm) cc maxL ret e s m args below meth c s₁ → c.maxLocals = maxL → c.exceptionTable.toList.map (fun h => (h.startPc, h.endPc, h.handlerPc, h.catchType)) = hs → Pc args s →
      W p l e (headSpec ws rm).room s m args below meth c s.heap [] 0 0 (MQ below Qc args s mc ms free) (entryFrame m args maxL)) : Met l y ws rm Pc Qc mc ms free := by
  refine MetFree.of_bodyS (code := cc) (maxLocals := maxL) (ret := ret) hy ?_ ?_
  · intro args s m h hn
    obtain ⟨m', meth, c, h0, h1, h2, h3, h4, -, h5, h6, -⟩ := Cond.codeWith_spec (atoms_spec (ws := ws) h _ (by rw [hw]; exact List.mem_cons_self))
    cases hn.symm.trans h0
    exact ⟨meth, c, h1, h2, h3, h4, h5, h6⟩
  · intro p e s m args below meth c s₁ B hml hP _
    have hh : s₁.heap = s.heap := by rw [B.state]; rfl
    obtain ⟨m', meth', c', h0, h1, h2, h3, h4, ht, -, -, -⟩ := Cond.codeWith_spec (atoms_spec (ws := ws) B.pre _ (by rw [hw]; exact List.mem_cons_self))
    cases B.named.symm.trans h0
    cases B.method.symm.trans h1
    cases (Stand.of_body B).code.symm.trans h2
    obtain ⟨t, a1, o, b1, b2, b3⟩ := body p e s m args below meth c s₁ B hml ht hP s₁ hh (Stand.of_body B)
    exact ⟨t, o, a1, b1, b2, ⟨b3.1, b3.2⟩⟩
section Call
variable {p : Program} {l : Launch} {e : Env} {R : Room} {s : State} {m : MethodId} {args : Array Value} {below : List Frame} {meth : Method} {c : Code} {H : Heap} {locs : List Loc} {cells slots : Nat}
variable {y : MethodName} {bytes cc : ByteArray} {maxL nL mc ms n index : Nat} {ret : Option FieldType} {ws : List Cond} {rm : Room} {Pc : Array Value → State → Prop} {Qc : Array Value → State → Outcome → State → Prop} {free : Addr → Prop} {Ts : List Cond} {own C : String} {b : Addr} {As rest : List Value} {g : JFrame} {hs : List (Nat × Nat × Nat × Nat)}
set_option maxHeartbeats 1000000 in
/-- a static method with handlers is called, and returns -/
theorem kh_runS (S : CallFix p m c cc nL s args Ts own) (hM : Met l y ws rm Pc Qc mc ms free) (hrc : rm.cells = mc) (hrs : rm.slots = ms) (hfr : rm.frames + 1 ≤ R.frames) (hlo : 8 + (maxL + 11) + rm.locals ≤ R.locals)
    (hws : ∀ w ∈ ws, ∀ (a' : Array Value) (U : State), s.WarmedH U.vm → w.before a' U = true) (hcw : Cond.codeWith y bytes maxL ret hs ∈ ws) (hcode : (Cond.codeWith y bytes maxL ret hs).before args s = true) (hini : (Cond.initialized y.cls).before args s = true) (hig : goodWord (Cond.initialized y.cls) = true)
    (hy : y.cls ≠ "java/lang/invoke/MethodHandle" ∧ y.cls ≠ "java/lang/invoke/VarHandle") (hlen : ∀ sig, parseMethodDescriptor y.desc = some sig → n = sig.parameters.length) (hl : (Cond.methodLink own index y).before args s = true) (hst : (Cond.static y).before args s = true) (hp : PreS s H Pc As)
    (hg : g.method = m) (hn : As.length = n) (hsize : g.locals.size = nL) (hstack : g.stack = As.reverse ++ rest) (hW : 2 * g.monitorRoom + (rest.map fun v => v.category).sum ≤ 8) (hdg : decode cc g.pc = .ok (.invokestatic index, 3)) (hf : cells + mc ≤ R.cells ∧ slots + ms ≤ R.slots) :
    va_Run p l e R s m args below meth c H locs cells slots mc ms g rest (Qc As.toArray) free := by
  obtain ⟨hx, hb, hml, hown, -⟩ := S
  obtain ⟨hbl, hPc⟩ := hp
  intro T hT X
  obtain ⟨mk, methM, cM, hnamed, hmethM, hcodeM, -, hlM, -, -, -, hsigM⟩ := Cond.codeWith_spec hcode
  have hstatic : methM.isStatic = true := Cond.static_spec hnamed hmethM hst
  obtain ⟨kP, hkP, -⟩ := className_of_methodNamed hnamed
  have hinitP : kP.init = .initialized := Cond.initialized_spec (findClass_of_methodNamed hnamed) hkP hini
  obtain ⟨vm₁, X₁, hstep₁⟩ := X.invokestatic hx hown hl hnamed hmethM hstatic hkP hinitP hy (g := g) hg (argsL := As) (rest := rest) (by rw [hn]; exact hlen _ hsigM) hstack (by rw [hb]; exact hdg)
  -- the callee, from the state behind the instruction's own step
  generalize hU9 : T.setVm vm₁ = U at X₁ hstep₁
  have hUh : U.heap = H := by rw [← hU9]; exact hT
  have hWU : s.WarmedH U.vm := X₁.warmed
  generalize hg9 : ({ g with stack := rest } : JFrame) = gg at hstep₁
  have hgm : gg.method = m := by rw [← hg9]; exact hg
  have hgl : gg.locals.size = c.maxLocals := by rw [← hg9]; exact hsize.trans hml.symm
  have hgd : decode c.code gg.pc = .ok (.invokestatic index, 3) := by rw [← hg9, hb]; exact hdg
  have hgw : 2 * gg.monitorRoom + (gg.stack.map fun v => v.category).sum ≤ 8 := by rw [← hg9]; exact hW
  have hn' : U.methodNamed? y = some mk := X₁.named hnamed
  have h1 : (headSpec ws rm).pre.before As.toArray U = true := atoms_intro fun w hw => hws w hw _ _ hWU
  have h2 : (Cond.codeWith y bytes maxL ret hs).before As.toArray U = true := hws _ hcw _ _ hWU
  have h3 : (Cond.initialized y.cls).before As.toArray U = true := word_at hWU (good_of_word hig) hini
  obtain ⟨mk2, methY, cY, hn2, hmY, hcY, -, hlY, -, -, -, -⟩ := Cond.codeWith_spec h2
  cases hn'.symm.trans hn2
  obtain ⟨kY, hkY, -⟩ := className_of_methodNamed hn'
  have hinitY : kY.init = .initialized := Cond.initialized_spec (findClass_of_methodNamed hn') hkY h3
  have h : At U gg.method c below := by rw [hgm]; exact X₁.here
  have hPU : Pc As.toArray (U.calling gg mk As.toArray) := hbl _ _ _ _ (hPc U hUh hWU)
  have happ : (headSpec ws rm).appliesLoose y e.platform (U.calling gg mk As.toArray) = true :=
    Spec.appliesLoose_calling (g := gg) h hgd hn' hkY hinitY
      (X₁.room_calling (g := gg) (R' := (headSpec ws rm).room) hgl hmY hcY hfr (by rw [hlY]; have : (headSpec ws rm).room.locals = rm.locals := rfl; omega) (by show cells + rm.cells ≤ _; rw [hrc]; exact hf.1) (by show slots + rm.slots ≤ _; rw [hrs]; exact hf.2)) h1
  obtain ⟨mid, hmid⟩ := h.above
  have hfr9 : (U.setTop gg).frames = (.java gg :: mid) ++ below := by rw [State.frames_setTop' gg h.top, hmid]; rfl
  obtain ⟨o, s₂, hsteps, -, hend, hq⟩ := Steps.callFree hM p X₁.admits X₁.cas X₁.clock (acts := []) hfr9 happ hPU trivial
  obtain ⟨hqc, L, hfe, hL⟩ := (show Qc As.toArray (U.calling gg mk As.toArray) o s₂ ∧ ∃ L, FrameEnd (U.calling gg mk As.toArray) o s₂ L mc ms ∧ ∀ q ∈ L, free q.base from hq)
  rw [State.frames_setTop' gg h.top] at hend
  obtain ⟨g₀, hg0⟩ := Option.isSome_iff_exists.mp h.top
  obtain ⟨r, hr⟩ := State.topJava?_eq_some.mp hg0
  have hr' : (({ U with heap := s₂.heap, slotsUsed := s₂.slotsUsed } : State).setVm s₂.vm).frames = .java g₀ :: r := hr
  obtain ⟨⟨v, rfl⟩, hW₂, e2, q2, q3, q4, q5, q6⟩ := id hfe
  have e3 : s₂ = ({ (U.calling gg mk As.toArray).setFrames s₂.frames with heap := s₂.heap, slotsUsed := s₂.slotsUsed } : State).setVm s₂.vm := by
    have : s₂ = ({ s₂ with vm := (U.calling gg mk As.toArray).vm } : State).setVm s₂.vm := rfl
    rw [e2] at this
    exact this
  obtain ⟨c₂, i₂, len₂, hc₂, hd₂, hf₂⟩ := hend
  have hW' : U.WarmedH s₂.vm := hW₂
  have hcc : c₂ = c := by
    have h1 : s₂.code? gg.method = U.code? gg.method := by
      rw [State.code?_eq, State.code?_eq, hW'.alike.method?]
    exact Option.some.inj (hc₂.symm.trans (h1.trans h.code))
  subst hcc
  have hlen2 : len₂ = 3 := by rw [hgd] at hd₂; cases hd₂; rfl
  subst hlen2
  have hs₂ : s₂ = (({ U with heap := s₂.heap, slotsUsed := s₂.slotsUsed } : State).setVm s₂.vm).setTop { gg with pc := gg.pc + 3, stack := v.toList ++ gg.stack } := by
    refine e3.trans ?_
    rw [hf₂, State.calling_eq h.top, State.setFrames_setFrames, State.setTop_of_frames _ hr', hr]
    rfl
  have hsame : U.sameButNew ({ U with heap := s₂.heap, slotsUsed := s₂.slotsUsed } : State) L mc ms := by
    refine ⟨?_, q2, q3, q4, q5, q6⟩
    obtain ⟨t, ht, -⟩ := State.frames_cons hr
    show ({ U with heap := s₂.heap, slotsUsed := s₂.slotsUsed } : State) = { U.setFrames U.frames with heap := s₂.heap, slotsUsed := s₂.slotsUsed }
    rw [State.setFrames_self ht]
  subst hgm
  refine ⟨v, U.calling gg mk As.toArray, s₂, (({ U with heap := s₂.heap, slotsUsed := s₂.slotsUsed } : State).setVm s₂.vm), L, hUh,
    ⟨X₁.admits, X₁.cas, X₁.clock, X₁.frames, X₁.room, X₁.hears, X₁.method, X₁.code, (X₁.here.setHeapUsed s₂.heap s₂.slotsUsed).setVm hW'.alike, X₁.tail, State.WarmedH.trans X₁.warmed hW', X₁.limits, X₁.bytes, X₁.same.trans (hsame.setVm s.vm)⟩, hL, rfl, rfl, hqc, fun target ht => hstep₁ _ fun acts => ?_⟩
  rw [doInvoke_state]
  refine hsteps.trans ?_
  rw [hs₂, ← hg9]
  exact ht
end Call
end KH
section KTC
variable {p : Program} {l : Launch} {e : Env} {R : Room} {s : State} {m : MethodId} {args : Array Value} {below : List Frame} {meth : Method} {c : Code} {H : Heap} {locs : List Loc} {cells slots : Nat} {Q : State → Prop}
variable {y : MethodName} {bytes cc : ByteArray} {maxL nL mc ms n index : Nat} {ret : Option FieldType} {ws : List Cond} {rm : Room} {Pc : Array Value → State → Prop} {free : Addr → Prop} {Ts : List Cond} {own C : String} {b : Addr} {As rest : List Value} {pc : Nat} {ls : Array Slot} {st0 : List Value} {X : Type} {E : String} {D : va_G} {cl : List vw_C} {A0 : Nat → Prop} {H0 : Heap}
set_option maxHeartbeats 1000000 in
/-- a method is called that throws; the row x of this method's own table catches it -/
theorem kt_callC (S : CallFix p m c cc nL s args Ts own) {ws9 wc wr : va_W} {w1 ws' : X → va_W} (hM : kt_M l y ws rm Pc (kt_q E D cl w1 (va_A wc H.size)) mc ms (va_A wc H.size)) (cw : CallW R s args own C index y bytes maxL ret ws rm mc ms n) (hp : PreV s H C b Pc As)
    (hn : As.length = n) (hsize : ls.size = nL) (hstack : st0 = As.reverse ++ .ref b :: rest) (hW : 2 * (F0 m pc ls st0).monitorRoom + (rest.map fun v => v.category).sum ≤ 8) (hdg : decode cc pc = .ok (.invokevirtual index, 3)) (hf : cells + mc ≤ R.cells ∧ slots + ms ≤ R.slots)
    (hP : va_P D cl ws9 H) (hD : va_D A0 ws9) (hS : va_S A0 H0 H locs) (hA : ∀ q, H0.size ≤ q → A0 q)
    (isC isR is : List Nat) (hC : isC.map (fun i => ws9[i]?) = wc.map some) (hR : isR.map (fun i => ws9[i]?) = wr.map some) (hnd : va_nd isR = true) (hdis : ∀ i ∈ isR, i ∉ isC) (hsm : ∀ x, is.map (fun i => (wr ++ w1 x)[i]?) = (ws' x).map some) (hns : va_nd is = true)
    (pre : List ExceptionTableEntry) (x : ExceptionTableEntry) (suf : List ExceptionTableEntry) (hsplit : c.exceptionTable.toList = pre ++ x :: suf)
    (hpass : ∀ z ∈ pre, ∃ nm : String, z.catchType ≠ 0 ∧ (Cond.classLink own z.catchType nm).before args s = true ∧ va_Nc E nm s)
    (hcov : covers x pc = true) (h0 : x.catchType ≠ 0) (hlink : (Cond.classLink own x.catchType E).before args s = true) (hcast : (Cond.castable E E).before args s = true)
    (kk : ∀ (q : Addr) (x9 : X) (H1 : Heap) (locs1 : List Loc), va_P D cl (ws' x9) H1 → va_D A0 (ws' x9) → va_S A0 H0 H1 locs1 → W p l e R s m args below meth c H1 locs1 (cells + mc) (slots + ms) Q (F0 m x.handlerPc ls [.ref q])) : W p l e R s m args below meth c H locs cells slots Q (F0 m pc ls st0) := by
  have hF := va_free (wc := wc) hD hS hA isC hC
  obtain ⟨⟨hrc, hrs, hfr, hlo, hws, hcw, hcode, hini, hy, hlen, hl⟩, hin, hse⟩ := cw
  obtain ⟨hx, hb, hml, hown, -⟩ := S
  obtain ⟨hbl, ⟨cellB, hcB, hoB, hclB⟩, hPc⟩ := hp
  intro T hT Z
  have hpl : e.platform.magicAccessors = ({} : Platform).magicAccessors := by rw [Z.admits.platform]
  obtain ⟨mk, methM, hnamed, hmethM, hstM, habM⟩ := Cond.instanceMethod_spec hin
  obtain ⟨methM', cM, hmethM', -, -, -, -, -, -, hsigM⟩ := Cond.code_spec hnamed hcode
  cases hmethM.symm.trans hmethM'
  obtain ⟨c2, r2, m2, q1, q2, q3, q4, kP, hkP, hkPi⟩ := Cond.selects_spec hse
  cases hclB.symm.trans q1
  cases (State.methodFound?_of_named hnamed hy).symm.trans q2
  cases hnamed.symm.trans q3
  have hselP : selectMethod e.platform s.vm cellB.cls mk = .method mk := by rw [Launch.admits_selectMethod Z.admits]; exact q4
  obtain ⟨vm₁, X₁, hstep₁⟩ := Z.invokevirtual hx hown hl hnamed hmethM hstM hkP hkPi hy (a := b) (cell := cellB) (by rw [hT]; exact hcB)
    (fun z h => by rw [h] at hoB; cases hoB) hselP hmethM habM hkP hkPi (g := F0 m pc ls st0) rfl (argsL := As) (rest := rest) (by rw [hn]; exact hlen _ hsigM) hstack (by rw [hb]; exact hdg)
  -- the callee, from the state behind the instruction's own step
  generalize hU9 : T.setVm vm₁ = U at X₁ hstep₁
  have hUh : U.heap = H := by rw [← hU9]; exact hT
  have hWU : s.WarmedH U.vm := X₁.warmed
  generalize hg9 : ({ F0 m pc ls st0 with stack := rest } : JFrame) = gg at hstep₁
  have hgm : gg.method = m := by rw [← hg9]
  have hgl : gg.locals.size = c.maxLocals := by rw [← hg9]; exact hsize.trans hml.symm
  have hgd : decode c.code gg.pc = .ok (.invokevirtual index, 3) := by rw [← hg9, hb]; exact hdg
  have hgw : 2 * gg.monitorRoom + (gg.stack.map fun v => v.category).sum ≤ 8 := by rw [← hg9]; exact hW
  have hgp : gg.pc = pc := by rw [← hg9]
  have hgz : ∀ (h : Nat) (q : Addr), ({ gg with pc := h, stack := [.ref q] } : JFrame) = F0 m h ls [.ref q] := fun h q => by rw [← hg9]
  have hn' : U.methodNamed? y = some mk := X₁.named hnamed
  have k1 : (headSpec ws rm).pre.before (Value.ref b :: As).toArray U = true := atoms_intro fun w hw => hws w hw _ _ hWU
  have k2 : (Cond.code y bytes maxL ret).before (Value.ref b :: As).toArray U = true := hws _ hcw _ _ hWU
  have k3 : (Cond.initialized y.cls).before (Value.ref b :: As).toArray U = true := word_at hWU (Or.inl (by first | rfl | simp [Cond.onTables, Cond.keeps, Cond.steady])) hini
  obtain ⟨methY, cY, hmY, hcY, -, hlY, -, -, -, -⟩ := Cond.code_spec hn' k2
  obtain ⟨kY, hkY, -⟩ := className_of_methodNamed hn'
  have hinitY : kY.init = .initialized := Cond.initialized_spec (findClass_of_methodNamed hn') hkY k3
  have h : At U gg.method c below := by rw [hgm]; exact X₁.here
  have hPU : Pc (Value.ref b :: As).toArray (U.calling gg mk (Value.ref b :: As).toArray) := hbl _ _ _ _ (hPc U hUh hWU)
  have happ : (headSpec ws rm).appliesLoose y e.platform (U.calling gg mk (Value.ref b :: As).toArray) = true :=
    Spec.appliesLoose_calling (g := gg) h hgd hn' hkY hinitY
      (X₁.room_calling (g := gg) (R' := (headSpec ws rm).room) hgl hmY hcY hfr (by rw [hlY]; have : (headSpec ws rm).room.locals = rm.locals := rfl; omega) (by show cells + rm.cells ≤ _; rw [hrc]; exact hf.1) (by show slots + rm.slots ≤ _; rw [hrs]; exact hf.2)) k1
  obtain ⟨mid, hmid⟩ := h.above
  have hfr9 : (U.setTop gg).frames = (.java gg :: mid) ++ below := by rw [State.frames_setTop' gg h.top, hmid]; rfl
  obtain ⟨o, t, hsteps, -, hend, hq⟩ := Steps.callFree hM p X₁.admits X₁.cas X₁.clock (acts := []) hfr9 happ hPU trivial
  obtain ⟨⟨q, ce, x9, ho, hce, hcv, hcl, hP1, hD1, hz, hk⟩, L, hfe, hL⟩ := (show kt_E (kt_q E D cl w1 (va_A wc H.size)) mc ms (va_A wc H.size) (Value.ref b :: As).toArray (U.calling gg mk (Value.ref b :: As).toArray) o t from hq)
  subst ho
  rw [State.frames_setTop' gg h.top] at hend
  have hft : t.frames = .throwing q :: .java gg :: U.frames.tail := hend
  obtain ⟨-, hWt, s1, s2, s3, s4, s5, s6⟩ := id hfe
  have hWt' : U.WarmedH t.vm := hWt
  have et : t = ({ (U.calling gg mk (Value.ref b :: As).toArray).setFrames t.frames with heap := t.heap, slotsUsed := t.slotsUsed } : State).setVm t.vm := by
    have : t = ({ t with vm := (U.calling gg mk (Value.ref b :: As).toArray).vm } : State).setVm t.vm := rfl
    rw [s1] at this
    exact this
  obtain ⟨g₀, hg0⟩ := Option.isSome_iff_exists.mp h.top
  obtain ⟨r, hr⟩ := State.topJava?_eq_some.mp hg0
  generalize hU2 : (({ U with heap := t.heap, slotsUsed := t.slotsUsed } : State).setVm t.vm) = U'
  have e1 : U'.heap = t.heap := by rw [← hU2]; rfl
  have hr2 : U'.frames = .java g₀ :: r := by rw [← hU2]; exact hr
  have ht2 : t = (U'.setTop gg).pushFrame (.throwing q) := by
    rw [State.pushFrame, State.frames_setTop _ hr2, State.setTop_of_frames _ hr2, State.setFrames_setFrames, ← hU2]
    refine et.trans ?_
    rw [hft, State.calling_eq h.top, State.setFrames_setFrames, hr]
    rfl
  have hsame : U.sameButNew ({ U with heap := t.heap, slotsUsed := t.slotsUsed } : State) L mc ms := by
    refine ⟨?_, s2, s3, s4, s5, s6⟩
    obtain ⟨t9, ht9, -⟩ := State.frames_cons hr
    show ({ U with heap := t.heap, slotsUsed := t.slotsUsed } : State) = { U.setFrames U.frames with heap := t.heap, slotsUsed := t.slotsUsed }
    rw [State.setFrames_self ht9]
  have X' : Stand p l e R s m args below meth c U' (locs ++ L) (cells + mc) (slots + ms) := by
    rw [← hU2]
    exact ⟨X₁.admits, X₁.cas, X₁.clock, X₁.frames, X₁.room, X₁.hears, X₁.method, X₁.code, (X₁.here.setHeapUsed t.heap t.slotsUsed).setVm hWt'.alike, X₁.tail, State.WarmedH.trans X₁.warmed hWt', X₁.limits, X₁.bytes, X₁.same.trans (hsame.setVm s.vm)⟩
  have hz : H.size ≤ t.heap.size := by rw [← hUh]; exact hz
  have hk : ∀ q : Nat, q < H.size → ¬ va_A wc H.size q → t.heap[q]? = H[q]? := by
    intro q h1 h2
    have h3 := hk q (by show q < U.heap.size; rw [hUh]; exact h1) h2
    refine h3.trans ?_
    show U.heap[q]? = _
    rw [hUh]
  have hcl' : s.vm.findClass E = some ce.cls := by
    have h9 : U.vm.findClass E = some ce.cls := hcl
    have h8 : U.vm.findClass E = s.vm.findClass E := hWU.alike.findClass E none
    rw [← h8]; exact h9
  obtain ⟨ck, hck, -⟩ := Vm.findClass_spec hcl'
  obtain ⟨c3, c4, hc3, hc4, hasg⟩ := Cond.castable_spec hcast
  cases Option.some.inj (hc3.symm.trans hcl')
  obtain ⟨c5, hc5, hcl5⟩ := Cond.classLink_spec hown hlink e.platform hpl
  cases Option.some.inj (hc4.symm.trans hc5)
  obtain ⟨vm', X'', st⟩ := kc_catch X' (a := q) (g := gg) hgm (cell := ce) (by rw [e1]; exact hce) (by rw [hcv]; rfl) ⟨ck, hck⟩ hsplit
    (fun z hz9 => by
      obtain ⟨nm, z0, hzl, hzn⟩ := hpass z hz9
      obtain ⟨c6, hc6, hcl6⟩ := Cond.classLink_spec hown hzl e.platform hpl
      obtain ⟨a8, b8, g1, g2, g3⟩ := hzn
      cases Option.some.inj (g1.symm.trans hcl')
      cases Option.some.inj (g2.symm.trans hc6)
      exact ⟨z0, _, hcl6, g3⟩) (by rw [hgp]; exact hcov) h0 hcl5 hasg
  rw [← ht2, hgz] at st
  rw [← e1] at hP1 hz hk
  obtain ⟨hP2, hD2⟩ := va_join (wr := wr) (w1 := w1 x9) hP hD isC isR hC hR hnd hdis hk hF hP1 hD1
  obtain ⟨t2, a1, b1⟩ := kk q x9 U'.heap (locs ++ L) (hP2.sub is (kx_map (hsm x9))) (hD2.sub is hns (hsm x9))
    ⟨Nat.le_trans hS.1 hz, fun q h1 h2 => by rw [hk q (Nat.lt_of_lt_of_le h1 hS.1) (fun z => h2 (hF q z))]; exact hS.2.1 q h1 h2, fun q hq => by
      rcases List.mem_append.mp hq with h | h
      · exact hS.2.2 q h
      · exact hF _ (hL q h)⟩ (U'.setVm vm') rfl X''
  exact ⟨t2, (hstep₁ _ fun acts => by rw [doInvoke_state]; exact hsteps.trans (st.trans a1)), b1⟩
end KTC
