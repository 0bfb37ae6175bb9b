/-! methods that throw (launches without stack traces), and how they are called -/
section KT
/-- it threw an object of the class E; its world; nothing else changed -/
def kt_q {X : Type} (E : String) (D : va_G) (cl : List vw_C) (ws' : X → va_W) (A : Nat → Prop) : Array Value → State → Outcome → State → Prop := fun _ st o t =>
  ∃ (q : Addr) (ce : Cell) (x : X), o = .threw q ∧ t.heap[q]? = some ce ∧ ce.vm = .none ∧ st.vm.findClass E = some ce.cls ∧ va_P D cl (ws' x) t.heap ∧ va_D A (ws' x) ∧ va_F A st t
def kt_E (Qt : Array Value → State → Outcome → State → Prop) (mc ms : Nat) (free : Addr → Prop) : Array Value → State → Outcome → State → Prop := fun a st o t => Qt a st o t ∧ ∃ L, FrameEnd st (.returned none) t L mc ms ∧ ∀ q ∈ L, free q.base
/-- a callee that throws -/
def kt_M (l : Launch) (y : MethodName) (ws : List Cond) (rm : Room) (Pc : Array Value → State → Prop) (Qt : Array Value → State → Outcome → State → Prop) (mc ms : Nat) (free : Addr → Prop) : Prop :=
  MetFree l y (headSpec ws rm) Pc (fun _ _ _ _ _ => True) (kt_E Qt mc ms free)
def kt_MQ (below : List Frame) (Qt : Array Value → State → Outcome → State → Prop) (a : Array Value) (s : State) (mc ms : Nat) (free : Addr → Prop) : State → Prop := fun t =>
  ∃ o, t.status = .running ∧ Ended t below o ∧ kt_E Qt mc ms free a s o t
theorem kt_ofW {l : Launch} {y : MethodName} {ws ws' : List Cond} {rm : Room} {Pc : Array Value → State → Prop} {Qt : Array Value → State → Outcome → State → Prop} {mc ms : Nat} {free : Addr → Prop} {cc : ByteArray} {maxL : Nat} {ret : Option FieldType}
    (hy : plainName y.cls = true) (hw : ws = Cond.code y cc maxL ret :: ws')
    (body : ∀ p e s m args below meth c s₁, BodyLoose p l y (headSpec ws rm) cc maxL ret e s m args below meth c s₁ → c.maxLocals = maxL → Pc args s →
      W p l e (headSpec ws rm).room s m args below meth c s.heap [] 0 0 (kt_MQ below Qt args s mc ms free) (entryFrame m args maxL)) : kt_M l y ws rm Pc Qt mc ms free := by
  refine MetFree.of_bodyS (code := cc) (maxLocals := maxL) (ret := ret) hy ?_ ?_
  · intro args s m h hn
    obtain ⟨meth, c, h1, h2, h3, h4, h5, h6, -, -⟩ := Cond.code_spec hn (atoms_spec (ws := ws) h _ (by rw [hw]; exact List.mem_cons_self))
    exact ⟨meth, c, h1, h2, h3, h4, h5, h6⟩
  · intro p e s m args below meth c s₁ B hml hP _
    have hh : s₁.heap = s.heap := by rw [B.state]; rfl
    obtain ⟨t, a1, o, b1, b2, b3⟩ := body p e s m args below meth c s₁ B hml hP s₁ hh (Stand.of_body B)
    exact ⟨t, o, a1, b1, b2, b3⟩
/-- its contract out of its walk -/
theorem kx_metT {l : Launch} {y : MethodName} {cc : ByteArray} {maxL : Nat} {ret : Option FieldType} {rm : Room} {X Y : Nat → Nat} {av : List Value} {D : va_G} {cI cZ : ClassId} {ws : va_W} {sz mc ms : Nat} {Qc : (Nat → Prop) → Array Value → State → Outcome → State → Prop} (hy : plainName y.cls = true) (hlen : (lg_sl av).length ≤ maxL)
    (body : ∀ (p : Program) (e : Env) (s : State) (m : MethodId) (below : List Frame) (meth : Method) (c : Code) (ls : Array Slot) (A : Nat → Prop), p.tables.exec = Jvm.exec → c.code = cc → meth.sig.returnType = ret → c.maxLocals = maxL → (∀ w ∈ kx_all, w.before av.toArray s = true) → s.vm.findClass y.cls = some m.cls → meth.locks = false → c.exceptionTable.isEmpty = true → (∀ q : Nat, s.heap.size ≤ q → A q) → va_P D kc_l ws s.heap → va_K D kc_l [(cI, .int), (cZ, .boolean)] s → va_D A ws → kx_N s → lv_has ls maxL (lv_args 0 av) → va_S A s.heap s.heap [] → kf X Y A s s.heap →
      W p l e rm s m av.toArray below meth c s.heap [] 0 0 (kt_MQ below (Qc A) av.toArray s mc ms A) (F0 m 0 ls [])) : kt_M l y (Cond.code y cc maxL ret :: kx_all) rm (kq X Y av D cI cZ ws sz) (Qc (va_A ws sz)) mc ms (va_A ws sz) := by
  refine kt_ofW (cc := cc) (maxL := maxL) (ret := ret) hy rfl ?_
  intro p e s m args below meth c s₁ B hml hv
  obtain ⟨rfl, rfl, hP, hK, hD, hN, hF⟩ := hv
  have hl := lv_entry av (n := maxL) hlen
  rw [lg_entry_eq]
  generalize (lg_sl av ++ List.replicate (maxL - (lg_sl av).length) Slot.unset).toArray = ls at hl ⊢
  exact body p e s m below meth c ls (va_A ws s.heap.size) B.exec B.bytes B.returns hml (fun w h => atoms_spec (ws := Cond.code y cc maxL ret :: kx_all) B.pre w (List.mem_cons_of_mem _ h)) (findClass_of_methodNamed B.named) B.notSynchronized (B.noHandlers (atoms_spec (ws := Cond.code y cc maxL ret :: kx_all) B.pre _ List.mem_cons_self)) (fun q h => Or.inr h) hP hK (hD.self (sz := s.heap.size)) hN hl va_S.rf hF
section KTW
variable {p : Program} {l : Launch} {e : Env} {R : Room} {s : State} {m : MethodId} {args : Array Value} {below : List Frame} {meth : Method} {c : Code} {H : Heap} {locs : List Loc} {cells slots : Nat}
/-- where the method stands now, as if it had been called now -/
theorem kt_anew {T : State} (X : Stand p l e R s m args below meth c T locs cells slots) {R' : Room} (hf : R'.frames ≤ R.frames) (hl : R'.locals ≤ R.locals) (hc : cells + R'.cells ≤ R.cells) (hs : slots + R'.slots ≤ R.slots) :
    Stand p l e R' ((T.setVm s.vm).setFrames (.invoking m args :: below)) m args below meth c T [] 0 0 := by
  have htop : (T.setVm s.vm).topJava?.isSome := X.here.top
  have hF : ((T.setVm s.vm).setFrames (.invoking m args :: below)).frames = .invoking m args :: below := State.frames_setFrames _ (State.cur_lt_of_top htop)
  obtain ⟨g₀, hg0⟩ := Option.isSome_iff_exists.mp htop
  obtain ⟨r, hr⟩ := State.topJava?_eq_some.mp hg0
  have hl9 : e.platform.stackLimits (T.setVm s.vm).me = e.platform.stackLimits s.me := X.limits
  have hb9 : (T.setVm s.vm).me.stackBytes = s.me.stackBytes := X.bytes
  refine ⟨X.admits, X.cas, X.clock, hF, ?_, X.hears, X.method, X.code, X.here, X.tail, X.warmed, ?_, ?_, ?_⟩
  · have h := X.room
    have hU : ((T.setVm s.vm).setFrames (.invoking m args :: below)).localsInUse = s.localsInUse := by
      rw [State.localsInUse_invoking hF (meth := meth) (c := c) X.method X.code, State.localsInUse_invoking X.frames X.method X.code]
    simp only [State.hasRoom, Bool.and_eq_true, decide_eq_true_eq] at h ⊢
    obtain ⟨⟨⟨⟨h1, h2, h3, h4, h5, h6⟩, h7⟩, h8⟩, h9⟩ := h
    rw [X.frames, List.length_cons] at h2 h3
    have q1 := X.heapSize
    have q2 := X.used
    simp only [hF, hU, List.length_cons, State.stackLimits_setFrames, State.stackBytes_setFrames, hl9, hb9]
    refine ⟨⟨⟨⟨by omega, by omega, by omega, by omega, by omega, h6⟩, ?_⟩, ?_⟩, X.book⟩
    · show T.heap.size + R'.cells ≤ e.platform.maxCells
      omega
    · show T.slotsUsed + R'.slots ≤ e.platform.maxSlots
      omega
  · rw [State.stackLimits_setFrames]; rfl
  · rw [State.stackBytes_setFrames]; rfl
  · have hnil : T.heap.toList.drop T.heap.size = [] := List.drop_eq_nil_of_le (Nat.le_of_eq Array.length_toList)
    refine ⟨?_, Nat.le_refl _, Nat.le_refl _, ?_, ?_, fun a c9 h9 => ⟨c9, h9, rfl, rfl, fun _ _ => rfl⟩⟩
    · obtain ⟨t, ht, -⟩ := State.frames_cons hr
      show T.setVm s.vm = { ((T.setVm s.vm).setFrames (.invoking m args :: below)).setFrames (T.setVm s.vm).frames with heap := T.heap, slotsUsed := T.slotsUsed }
      rw [State.setFrames_setFrames, State.setFrames_self ht]
      rfl
    · show T.slotsUsed = T.slotsUsed + ((T.heap.toList.drop T.heap.size).map (·.slots.size)).sum
      rw [hnil]
      rfl
    · show ((T.heap.toList.drop T.heap.size).map (·.slots.size)).sum ≤ 0
      rw [hnil]
      exact Nat.le_refl _
/-- nothing has changed but new cells -/
theorem kt_same {s U : State} {k n : Nat} (h : s.sameButNew ({ U with vm := s.vm } : State) [] k n) : s.heap.size ≤ U.heap.size ∧ ∀ q : Nat, q < s.heap.size → U.heap[q]? = s.heap[q]? := by
  obtain ⟨-, h2, -, -, -, h6⟩ := h
  refine ⟨h2, fun q hq => ?_⟩
  obtain ⟨c9, e1, e2, -, e4⟩ := h6 q _ (Array.getElem?_eq_getElem hq)
  have hs : c9.slots = (s.heap[q]).slots := Array.ext_getElem? fun i => e4 i fun hm => nomatch hm
  have h9 : c9 = s.heap[q] := by rw [hs] at e2; exact e2
  have e5 : U.heap[q]? = some c9 := e1
  rw [e5, h9, Array.getElem?_eq_getElem hq]
theorem kt_ref {C n d : String} {A : Nat → Prop} {s : State} {args : Array Value} (h : va_Zq C n d A s s.heap) : (Cond.isRef (.static C n d)).before args s = true := by
  have key : ∀ v : Value, v.isRef = true → va_Z C n d v A s s.heap → (Cond.isRef (.static C n d)).before args s = true := by
    intro v hv hz
    obtain ⟨cf, kf9, fi, f, a, cell, h1, h2, h3, h4, h5, h6, h7, -⟩ := hz
    have he : (Term.static C n d).eval args s none [] s = some v := by
      simp [Term.eval, State.fieldNamed?, h1, h2, h4, h5, h6, h7]
    simp only [Cond.before, Cond.holds, Cond.value, he]
    cases v <;> simp_all [Value.isRef]
  rcases h with h | ⟨t, h⟩
  · exact key _ rfl h
  · exact key _ rfl h
theorem kt_lay {C n d : String} {A : Nat → Prop} {s : State} {args : Array Value} (h : kf_L C n d A s s.heap) : (Cond.laysStatic C n d).before args s = true := by
  obtain ⟨ci, k, i, f, a, cell, h1, h2, h3, h4, h5, h6, h7, h8, h9, -⟩ := h
  show (Cond.laysStatic C n d).holds args s none s [] = true
  exact Cond.laysStatic_of h1 h2 h3 h4 h5 h6 h7 h8 h9
/-- the words that a throw needs: those of the list, and those that kf has -/
def kt_w (E : String) : List Cond := [.laysStatic "java/lang/Throwable" "UNASSIGNED_STACK" "[Ljava/lang/StackTraceElement;", .laysStatic "java/lang/Throwable" "SUPPRESSED_SENTINEL" "Ljava/util/List;", .isRef (.static "java/lang/Throwable" "UNASSIGNED_STACK" "[Ljava/lang/StackTraceElement;"), .isRef (.static "java/lang/Throwable" "SUPPRESSED_SENTINEL" "Ljava/util/List;"),
  .declares ⟨"java/lang/RuntimeException", "<init>", "(Ljava/lang/String;)V"⟩, .declares ⟨"java/lang/Exception", "<init>", "(Ljava/lang/String;)V"⟩, .declares ⟨"java/lang/Throwable", "<init>", "(Ljava/lang/String;)V"⟩, .castable E E]
def kt_nm : List String := ["java/lang/RuntimeException", "java/lang/Exception"]
def kt_IA : String := "java/lang/IllegalArgumentException"
def kt_IS : String := "java/lang/IllegalStateException"
theorem kt_in1 : ∀ w ∈ Bundle.ownAtoms rn_Pt 79 kt_IA kt_nm, (goodWord w = true ∧ w ∈ kx_all) ∨ w ∈ kt_w kt_IA := by decide +kernel
theorem kt_in2 : ∀ w ∈ Bundle.ownAtoms rn_Pt 113 kt_IS kt_nm, (goodWord w = true ∧ w ∈ kx_all) ∨ w ∈ kt_w kt_IS := by decide +kernel
theorem kt_wd {X Y : Nat → Nat} {A : Nat → Prop} {s : State} {args : Array Value} {E : String} (hE : (E, E) ∈ kf_ct) (hF : kf X Y A s s.heap) : ∀ w ∈ kt_w E, w.before args s = true := by
  obtain ⟨-, -, -, -, h5, h6, h7, h8⟩ := hF
  intro w hw
  simp only [kt_w, List.mem_cons, List.not_mem_nil, or_false] at hw
  rcases hw with rfl | rfl | rfl | rfl | rfl | rfl | rfl | rfl
  · exact kt_lay h5.2
  · exact kt_lay h6.2
  · exact kt_ref h5.1
  · exact kt_ref h6.1
  · exact va_Nw.use rfl (h7 _ (by simp [kf_dc]))
  · exact va_Nw.use rfl (h7 _ (by simp [kf_dc]))
  · exact va_Nw.use rfl (h7 _ (by simp [kf_dc]))
  · exact va_Nw.use rfl (h8.1 _ hE)
set_option maxHeartbeats 1000000 in
/-- 'throw new E("text")' -/
theorem kt_throw {cc : ByteArray} {pc : Nat} {ls : Array Slot} {X Y : Nat → Nat} {A : Nat → Prop} {D : va_G} {cl : List vw_C} {XT : Type} {ws : va_W} {ws' : XT → va_W} {E text : String} {ik is ic mc ms sa : Nat} (hexec : p.tables.exec = Jvm.exec) (hb : c.code = cc) (htl : l.stackTraces = false)
    (hts : ∀ w ∈ kx_all, w.before args s = true) (hown : s.vm.findClass rn_Pt = some m.cls) (hlocks : meth.locks = false) (hnx : c.exceptionTable.isEmpty = true) (hfit : Bundle.fit E = true)
    (hin : ∀ w ∈ Bundle.ownAtoms rn_Pt ic E kt_nm, (goodWord w = true ∧ w ∈ kx_all) ∨ w ∈ kt_w E) (hE : (E, E) ∈ kf_ct) (hkl : Cond.classLink rn_Pt ik E ∈ kx_all) (hki : Cond.initialized E ∈ kx_all) (hgl : goodWord (Cond.classLink rn_Pt ik E) = true) (hgi : goodWord (Cond.initialized E) = true)
    (hstr : vk_R rn_Pt is text sa s) (hF : kf X Y A s s.heap) (hP : va_P D cl ws H) (hD : va_D A ws) (hS : va_S A s.heap H locs) (hA : ∀ q : Nat, s.heap.size ≤ q → A q) (hsize : ls.size = c.maxLocals) (x : XT) (hws : ws = ws' x)
    (d0 : decode cc pc = .ok (.new ik, 3)) (d3 : decode cc (pc + 3) = .ok (.dup, 1)) (d4 : decode cc (pc + 4) = .ok (.ldc is, 2)) (d6 : decode cc (pc + 6) = .ok (.invokespecial ic, 3)) (d9 : decode cc (pc + 9) = .ok (.athrow, 1))
    (hRf : 5 < R.frames) (hRl : 82 ≤ R.locals) (hRc : cells + 1 ≤ R.cells) (hRs : slots + 6 ≤ R.slots) (hc : cells + 1 ≤ mc) (hs : slots + 6 ≤ ms) :
    W p l e R s m args below meth c H locs cells slots (kt_MQ below (kt_q E D cl ws' A) args s mc ms A) (F0 m pc ls []) := by
  intro T hT Z
  have htr : e.platform.stackTraces = false := (show e.platform.stackTraces = l.stackTraces by rw [Z.admits.platform]).trans htl
  have Y9 := kt_anew Z (R' := { frames := R.frames, locals := R.locals, cells := 1, slots := 6 }) (Nat.le_refl _) (Nat.le_refl _) hRc hRs
  obtain ⟨s', hs'⟩ : ∃ z, z = (T.setVm s.vm).setFrames (.invoking m args :: below) := ⟨_, rfl⟩
  rw [← hs'] at Y9
  have hvm : s'.vm = s.vm := by rw [hs']; rfl
  have hhp : s'.heap = H := by rw [hs']; exact hT
  have hW0 : s.WarmedH s'.vm := by rw [hvm]; exact State.WarmedH.refl s
  have hF' : kf X Y A s' s'.heap := by rw [hhp]; exact (hF.kept hS.2.1).warm hW0
  have hat : ∀ w ∈ Bundle.ownAtoms rn_Pt ic E kt_nm, w.before args s' = true := fun w hw => by
    rcases hin w hw with ⟨h1, h2⟩ | h
    · exact word_at hW0 (good_of_word h1) (hts w h2)
    · exact kt_wd hE hF' w h
  have hown' : s'.vm.findClass rn_Pt = some m.cls := by rw [hvm]; exact hown
  have hk' : (Cond.classLink rn_Pt ik E).before args s' = true := word_at hW0 (good_of_word hgl) (hts _ hkl)
  have hi' : (Cond.initialized E).before args s' = true := word_at hW0 (good_of_word hgi) (hts _ hki)
  have hin' : (Cond.instantiable E 6).before args s' = true := hat _ (by simp [Bundle.ownAtoms])
  obtain ⟨vm₁, cX, kX, hfX, hkX, -, -, X₁, st1⟩ := Y9.newCold hexec (own := rn_Pt) (C := E) (index := ik) (n := 6) hown' hk' hin' hi' (g := F0 m pc ls []) rfl (by rw [hb]; exact d0) (Nat.le_refl _) (Nat.le_refl _)
  generalize hT1 : (T.setVm vm₁).pushCell { cls := cX, slots := kX.instanceTypes.map defaultValue, vm := .none } = T1 at X₁ st1
  have hcat : (Value.ref T.heap.size).category = 1 := rfl
  have hcellA : T1.heap[T.heap.size]? = some (freshCell cX kX) := by rw [← hT1]; exact State.heap_pushCell_size _ _
  have d3' : decode c.code (pc + 3) = .ok (.dup, 1) := by rw [hb]; exact d3
  have d4' : decode c.code (pc + 4) = .ok (.ldc is, 2) := by rw [hb]; exact d4
  have hstr' : vk_R rn_Pt is text sa s' := vk_R.warm hW0 hstr
  have hno : ∀ z ∈ c.exceptionTable.toList, covers z (pc + 9) = false := fun z hz => by
    have h0 : c.exceptionTable.toList = [] := by
      have := Array.isEmpty_iff.mp hnx
      rw [this]
    rw [h0] at hz; cases hz
  obtain ⟨U, hsteps, hrun, hend, hW, hsame, ce, hce, hO⟩ := X₁.ctorThrowS hexec htr (own := rn_Pt) (cls := E) (names := kt_nm) (ic := ic) hown' hfit (by decide) hat (fun z hz => nomatch hz) hfX hkX hcellA (by rw [hhp, hT]; exact Nat.le_refl _) (msg := .ref sa) rfl
    (g := { method := m, pc := pc + 6, locals := ls, stack := .ref sa :: .ref T.heap.size :: .ref T.heap.size :: [], locked := none }) rfl hsize rfl rfl (rest := []) rfl
    (by rw [hb]; exact d6) (by rw [hb]; exact d9) hno (by show 2 + 3 < R.frames; omega) (by simp only [List.map_cons, List.map_nil, List.sum_cons, List.sum_nil, hcat]; show 2 * 0 + (1 + 0) + (13 * (2 + 1) + 42) ≤ R.locals; omega) hlocks
  obtain ⟨f1, f2⟩ := kt_same hsame
  rw [hhp] at f1 f2
  have hWs : s.WarmedH U.vm := State.WarmedH.trans hW0 hW
  have hcl : s.vm.findClass E = some ce.cls := by
    have h9 := hO.cls
    rw [hvm] at h9
    exact h9
  have hall : s.sameButNew ({ U with vm := s.vm } : State) locs mc ms := by
    subst hs'
    obtain ⟨e1, e2⟩ := hsame
    rw [State.setFrames_setFrames] at e1
    have h2 : (T.setVm s.vm).sameButNew ({ U with vm := s.vm } : State) [] (0 + 1) (0 + 6) := ⟨e1, e2⟩
    have h3 := Z.same.trans h2
    rw [List.append_nil] at h3
    exact h3.mono hc hs
  have hPU : va_P D cl ws U.heap := hP.kept (fun k q hq => f2 q.1 ((hP k q hq).lt))
  refine ⟨U, ?_, .threw T.heap.size, hrun, hend, ⟨T.heap.size, ce, x, rfl, hce, hO.vm, hcl, by rw [← hws]; exact hPU, by rw [← hws]; exact hD, ⟨Nat.le_trans hS.1 f1, fun q h1 h2 => by rw [f2 q (Nat.lt_of_lt_of_le h1 hS.1)]; exact hS.2.1 q h1 h2⟩⟩, locs, ⟨⟨_, rfl⟩, hWs, hall⟩, hS.2.2⟩
  refine st1 _ ?_
  show Steps p.tables e below (T1.setTop { method := m, pc := pc + 3, locals := ls, stack := .ref T.heap.size :: [], locked := none }) _
  jvm_step X₁.here [X₁.here.top, hexec, d3', Value.category]
  exact X₁.ldcString hexec (own := rn_Pt) (text := text) (index := is) (a := sa) hown' hstr'.1 hstr'.2
    (g := { method := m, pc := pc + 4, locals := ls, stack := .ref T.heap.size :: .ref T.heap.size :: [], locked := none }) rfl d4' _ hsteps
end KTW
end KT
