/-! an exception that a callee threw comes to the method's own table: no name of the library's shelf of members is used here -/
section KC
variable {p : Program} {l : Launch} {e : Env} {R : Room} {s : State} {m : MethodId} {args : Array Value} {below : List Frame} {meth : Method} {c : Code} {T S : State} {locs : List Loc} {cells slots : Nat}
/-- one row of the table that covers the place: her class is linked, then it is asked whether she takes the object -/
theorem kc_row {f : JFrame} {a : Addr} {x : ExceptionTableEntry} {t : List ExceptionTableEntry} {cT : ClassId} {cell : Cell} (hx : covers x f.pc = true) (h0 : x.catchType ≠ 0) (hl : S.vm.ClassLinks e.platform f.method.cls x.catchType cT) (hcell : S.heap[a]? = some cell) (hobj : ∀ k, cell.vm ≠ .statics k)
    (hk : ∃ k, S.vm.classes[cell.cls]? = some k) (hc : ∃ k, S.vm.classes[cT]? = some k) (Q : Handler → Pre) (E : CtlPost) (d : Bool) (acts : List Action) :
    wp (findHandler.go f a (x :: t)) Q E e d acts S ↔ if S.vm.assignable cell.cls cT = true then Q (.found x.handlerPc) d acts (S.setVm (S.vm.noted f.method.cls x.catchType (.cls cT))) else wp (findHandler.go f a t) Q E e d acts (S.setVm (S.vm.noted f.method.cls x.catchType (.cls cT))) := by
  have hn : S.vm.Alike (S.vm.noted f.method.cls x.catchType (.cls cT)) := (Vm.Alike.refl S.vm).noted _ _ _
  obtain ⟨r1, r2⟩ := (resolveClass_links e.toSetting hl).op (op := VmOp.resolveClass f.method.cls x.catchType) rfl
  obtain ⟨ka, ha⟩ := hk
  obtain ⟨kb, hb⟩ := hc
  obtain ⟨ka', ha', -⟩ := hn.2.2 _ _ ha
  obtain ⟨kb', hb', -⟩ := hn.2.2 _ _ hb
  have hx' := hx
  simp only [covers] at hx'
  have hs := hn.assignable cell.cls cT
  cases hq : S.vm.assignable cell.cls cT with
  | true =>
    rw [hq] at hs
    simp [findHandler.go, hx', h0, r1, r2, hcell, hobj, ha', hb', hs, VmOp.dirties, VmOp.acts]
  | false =>
    rw [hq] at hs
    simp [findHandler.go, hx', h0, r1, r2, hcell, hobj, ha', hb', hs, VmOp.dirties, VmOp.acts]
/-- a linked class of s, seen from a warmer state -/
theorem kc_warm {d i cz : Nat} {pl : Platform} (h : s.vm.ClassLinks pl d i cz) (hW : s.WarmedH S.vm) : S.vm.ClassLinks pl d i cz ∧ (∃ k, S.vm.classes[cz]? = some k) ∧ s.WarmedH (S.vm.noted d i (.cls cz)) := by
  obtain ⟨dk, _, _, kt, g1, _, _, _, _, g2, _, g3⟩ := h.here
  obtain ⟨kt', g4, -⟩ := hW.alike.2.2 _ _ g2
  exact ⟨hW.classLinks h, ⟨kt', g4⟩, hW.noted g1 g3 (State.rightAt_cls h)⟩
/-- the search: the rows ahead don't take it, this one does -/
theorem kc_go {f : JFrame} {a : Addr} {cell : Cell} {x : ExceptionTableEntry} {suf : List ExceptionTableEntry} {cT : ClassId} (hobj : ∀ k, cell.vm ≠ .statics k) (hk : ∃ k, s.vm.classes[cell.cls]? = some k) (hx : covers x f.pc = true) (h0 : x.catchType ≠ 0) (hl : s.vm.ClassLinks e.platform f.method.cls x.catchType cT) (hfit : s.vm.assignable cell.cls cT = true) :
    ∀ (pre : List ExceptionTableEntry) (S : State), s.WarmedH S.vm → S.heap[a]? = some cell → (∀ z ∈ pre, z.catchType ≠ 0 ∧ ∃ cz, s.vm.ClassLinks e.platform f.method.cls z.catchType cz ∧ s.vm.assignable cell.cls cz = false) →
      ∃ vm' : Vm, s.WarmedH vm' ∧ ∀ (Q : Handler → Pre) (E : CtlPost) (d : Bool) (acts : List Action), wp (findHandler.go f a (pre ++ x :: suf)) Q E e d acts S ↔ Q (.found x.handlerPc) d acts (S.setVm vm') := by
  have hkS : ∀ U : State, s.WarmedH U.vm → ∃ k, U.vm.classes[cell.cls]? = some k := fun U hU => by
    obtain ⟨k, h⟩ := hk
    obtain ⟨k', h', -⟩ := hU.alike.2.2 _ _ h
    exact ⟨k', h'⟩
  intro pre
  induction pre with
  | nil =>
    intro S hW hc _
    obtain ⟨w1, w2, w3⟩ := kc_warm hl hW
    refine ⟨_, w3, fun Q E d acts => ?_⟩
    rw [List.nil_append, kc_row hx h0 w1 hc hobj (hkS S hW) w2 Q E d acts, if_pos (by rw [hW.alike.assignable]; exact hfit)]
  | cons z zs ih =>
    intro S hW hc hp
    obtain ⟨z0, cz, zl, zn⟩ := hp z List.mem_cons_self
    cases hcov : covers z f.pc with
    | false =>
      obtain ⟨vm', w1, w2⟩ := ih S hW hc (fun y hy => hp y (List.mem_cons_of_mem _ hy))
      exact ⟨vm', w1, fun Q E d acts => by rw [List.cons_append, Jvm.W.findHandler_go_skip hcov]; exact w2 Q E d acts⟩
    | true =>
      obtain ⟨w1, w2, w3⟩ := kc_warm zl hW
      obtain ⟨vm', w4, w5⟩ := ih (S.setVm (S.vm.noted f.method.cls z.catchType (.cls cz))) w3 hc (fun y hy => hp y (List.mem_cons_of_mem _ hy))
      exact ⟨vm', w4, fun Q E d acts => by rw [List.cons_append, kc_row hcov z0 w1 hc hobj (hkS S hW) w2 Q E d acts, if_neg (by rw [hW.alike.assignable, zn]; decide)]; exact w5 Q E d acts⟩
/-- the step into the handler -/
theorem kc_step {f : JFrame} {a : Addr} {r : List Frame} {h : Nat} {vm' : Vm} (hf : ∀ (Q : Handler → Pre) (E : CtlPost) (d : Bool) (acts : List Action), wp (findHandler f a) Q E e d acts S ↔ Q (.found h) d acts (S.setVm vm')) :
    (stepThrowing e S a (.java f :: r)).Is ((S.setVm vm').setFrames (.java { f with pc := h, stack := [.ref a] } :: r)) [] := by
  simp only [stepThrowing, searchFrame, vmDo]
  generalize hz : Sem.go _ e false [] S = z
  obtain ⟨as, rfl, has⟩ := Sem.eq_ok_of hz (a := Handler.found h) (s' := S.setVm vm') (acts' := []) (by simp [hf _ _ _ _])
  exact ⟨rfl, has⟩
/-- thrown, and caught by the row x of the method's own table -/
theorem kc_catch (X : Stand p l e R s m args below meth c T locs cells slots) {a : Addr} {g : JFrame} (hg : g.method = m) {cell : Cell} (hcell : T.heap[a]? = some cell) (hobj : cell.vm.isStatics = false) (hk : ∃ k, s.vm.classes[cell.cls]? = some k) {pre : List ExceptionTableEntry} {x : ExceptionTableEntry} {suf : List ExceptionTableEntry} (hsplit : c.exceptionTable.toList = pre ++ x :: suf)
    (hpass : ∀ z ∈ pre, z.catchType ≠ 0 ∧ ∃ cz, s.vm.ClassLinks e.platform m.cls z.catchType cz ∧ s.vm.assignable cell.cls cz = false) (hx : covers x g.pc = true) (h0 : x.catchType ≠ 0) {cT : ClassId} (hl : s.vm.ClassLinks e.platform m.cls x.catchType cT) (hfit : s.vm.assignable cell.cls cT = true) :
    ∃ vm' : Vm, Stand p l e R s m args below meth c (T.setVm vm') locs cells slots ∧ Steps p.tables e below ((T.setTop g).pushFrame (.throwing a)) ((T.setVm vm').setTop { g with pc := x.handlerPc, stack := [.ref a] }) := by
  subst hg
  obtain ⟨vm', w1, w2⟩ := kc_go (e := e) (suf := suf) (VmData.ne_statics_of hobj) hk hx h0 hl hfit pre ((T.setTop g).pushFrame (.throwing a)) X.warmed hcell hpass
  refine ⟨vm', X.noted w1, ?_⟩
  obtain ⟨i1, i2⟩ := X.here.throwing a
  refine Steps.head i1 i2 ?_
  have hf : ∀ (Q : Handler → Pre) (E : CtlPost) (d : Bool) (acts : List Action), wp (findHandler g a) Q E e d acts ((T.setTop g).pushFrame (.throwing a)) ↔ Q (.found x.handlerPc) d acts (((T.setTop g).pushFrame (.throwing a)).setVm vm') := fun Q E d acts => by
    rw [Jvm.W.findHandler_eq (s := (T.setTop g).pushFrame (.throwing a)) (meth := meth) (code := c) X.method' X.code, hsplit]
    exact w2 Q E d acts
  rw [stepThread_throwing (frames_entered X.here.top _), (kc_step (S := (T.setTop g).pushFrame (.throwing a)) hf).1]
  obtain ⟨g0, h1⟩ := Option.isSome_iff_exists.mp X.here.top
  obtain ⟨r, h2⟩ := State.topJava?_eq_some.mp h1
  have h3 : (T.setVm vm').frames = .java g0 :: r := h2
  have h4 : ∀ (u : State) (A B : List Frame), ((u.setFrames A).setVm vm').setFrames B = (u.setVm vm').setFrames B := fun u A B => by
    show ((u.setVm vm').setFrames A).setFrames B = _
    exact State.setFrames_setFrames _ _ _
  rw [State.setTop_of_frames _ h3, h2, List.tail_cons, State.pushFrame, h4, State.setTop_of_frames _ h2, h4]
  exact Steps.refl _
end KC
