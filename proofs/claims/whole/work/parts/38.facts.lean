/-! what is known of texts and of the JDK's fixed values, beside the world -/
/-- constants that are texts: class, entry, text -/
def kf_tx : List (String × Nat × String) := [(rn_Dr, 33, "p"), (rn_Dr, 41, "cnf"), (rn_Dr, 58, "d"), (rn_Pt, 77, "The text is no formula."), (rn_Pt, 111, "There is no formula."), (rn_Pt, 121, "The text is no proof of that kind."), (rn_Pt, 127, "There is no proof."), (rn_Pt, 190, "Nothing is checked.")]
def kf_dc : List MethodName := [⟨"java/lang/RuntimeException", "<init>", "(Ljava/lang/String;)V"⟩, ⟨"java/lang/Exception", "<init>", "(Ljava/lang/String;)V"⟩, ⟨"java/lang/Throwable", "<init>", "(Ljava/lang/String;)V"⟩]
def kf_ct : List (String × String) := [("java/lang/IllegalArgumentException", "java/lang/IllegalArgumentException"), ("java/lang/IllegalStateException", "java/lang/IllegalStateException")]
/-- a static place of a class: its cell is none that may change -/
def kf_L (C n d : String) (A : Nat → Prop) (U : State) (H : Heap) : Prop := ∃ (ci : ClassId) (k : Class) (i : Nat) (f : Field) (a : Nat) (cell : Cell), U.vm.findClass C = some ci ∧ U.fieldFound? C n d = some (ci, k, i, f) ∧ f.isStatic = true ∧ k.statics = some a ∧ H[a]? = some cell ∧ cell.vm.isStatics = true ∧ cell.cls = ci ∧ f.slot < cell.slots.size ∧ k.staticTypes[f.slot]? = some f.type ∧ ¬ A a
theorem kf_L.moved {C n d : String} {A : Nat → Prop} {u U : State} {H : Heap} (hv : u.vm.Alike U.vm) (h : kf_L C n d A u H) : kf_L C n d A U H := by
  obtain ⟨ci, k, i, f, a, cell, h1, h2, h3, h4, h5, h6, h7, h8, h9, h10⟩ := h
  obtain ⟨k', hi', he⟩ := State.fieldFound?_setVm hv h2
  exact ⟨ci, k', i, f, a, cell, by rw [hv.findClass]; exact h1, hi', h3, by rw [he]; exact h4, h5, h6, h7, h8, by rw [he]; exact h9, h10⟩
theorem kf_L.kept {C n d : String} {A : Nat → Prop} {U : State} {H H1 : Heap} (h : kf_L C n d A U H) (hq : ∀ a : Nat, a < H.size → ¬ A a → H1[a]? = H[a]?) : kf_L C n d A U H1 := by
  obtain ⟨ci, k, i, f, a, cell, h1, h2, h3, h4, h5, h6, h7, h8, h9, h10⟩ := h
  exact ⟨ci, k, i, f, a, cell, h1, h2, h3, h4, by rw [hq a (Array.getElem?_eq_some_iff.mp h5).1 h10]; exact h5, h6, h7, h8, h9, h10⟩
theorem kf_L.narrow {C n d : String} {A B : Nat → Prop} {U : State} {H : Heap} (h : kf_L C n d A U H) (hAB : ∀ q, B q → A q) : kf_L C n d B U H := by
  obtain ⟨ci, k, i, f, a, cell, h1, h2, h3, h4, h5, h6, h7, h8, h9, h10⟩ := h
  exact ⟨ci, k, i, f, a, cell, h1, h2, h3, h4, h5, h6, h7, h8, h9, fun z => h10 (hAB _ z)⟩
/-- the static of the class Throwable that a new exception reads -/
def kf_Q (n d : String) (A : Nat → Prop) (U : State) (H : Heap) : Prop := va_Zq "java/lang/Throwable" n d A U H ∧ kf_L "java/lang/Throwable" n d A U H
/-- all of it: texts by their addresses X (their bytes: Y), fixed values -/
def kf (X Y : Nat → Nat) (A : Nat → Prop) (U : State) (H : Heap) : Prop :=
  vk_S 3 [1, 3, 1] [[112], [99, 110, 102], [100]] X Y A U H ∧ (∀ (k : Nat) (q : String × Nat × String), kf_tx[k]? = some q → vk_R q.1 q.2.1 q.2.2 (X k) U) ∧
  va_Z "java/lang/String" "COMPACT_STRINGS" "Z" (.int 1) A U H ∧ va_Zq "jdk/internal/util/Preconditions" "SIOOBE_FORMATTER" "Ljava/util/function/BiFunction;" A U H ∧
  kf_Q "UNASSIGNED_STACK" "[Ljava/lang/StackTraceElement;" A U H ∧ kf_Q "SUPPRESSED_SENTINEL" "Ljava/util/List;" A U H ∧
  (∀ q ∈ kf_dc, va_Nw (.declares q) U) ∧ (∀ q ∈ kf_ct, va_Nw (.castable q.1 q.2) U) ∧ va_Nc "java/lang/IllegalArgumentException" "java/lang/IllegalStateException" U
theorem kf_nc {C T : String} {u U : State} (hv : u.vm.Alike U.vm) (h : va_Nc C T u) : va_Nc C T U := by
  obtain ⟨c, t, h1, h2, h3⟩ := h
  exact ⟨c, t, by rw [hv.findClass]; exact h1, by rw [hv.findClass]; exact h2, by rw [hv.assignable]; exact h3⟩
section KF
variable {X Y : Nat → Nat} {A B : Nat → Prop} {s u U : State} {H H1 : Heap}
theorem kf.warm (hW : s.WarmedH U.vm) (h : kf X Y A s H) : kf X Y A U H := by
  obtain ⟨h1, h2, h3, h4, h5, h6, h7, h8⟩ := h
  exact ⟨h1.moved hW.alike, fun k q hq => vk_R.warm hW (h2 k q hq), h3.moved hW.alike, h4.moved hW.alike, ⟨h5.1.moved hW.alike, h5.2.moved hW.alike⟩, ⟨h6.1.moved hW.alike, h6.2.moved hW.alike⟩, fun q hq => va_Nw.warmD hW (h7 q hq), fun q hq => va_Nw.warmC hW (h8.1 q hq), kf_nc hW.alike h8.2⟩
theorem kf.same (hv : u.vm = U.vm) (h : kf X Y A u H) : kf X Y A U H := by
  have hm : u.vm.Alike U.vm := by rw [hv]; exact Vm.Alike.refl U.vm
  obtain ⟨h1, h2, h3, h4, h5, h6, h7, h8⟩ := h
  exact ⟨h1.moved hm, fun k q hq => vk_R.same hv.symm (h2 k q hq), h3.moved hm, h4.moved hm, ⟨h5.1.moved hm, h5.2.moved hm⟩, ⟨h6.1.moved hm, h6.2.moved hm⟩, fun q hq => va_Nw.same rfl hv (h7 q hq), fun q hq => va_Nw.same rfl hv (h8.1 q hq), kf_nc hm h8.2⟩
theorem kf.kept (h : kf X Y A U H) (hq : ∀ a : Nat, a < H.size → ¬ A a → H1[a]? = H[a]?) : kf X Y A U H1 := by
  obtain ⟨h1, h2, h3, h4, h5, h6, h7, h8⟩ := h
  exact ⟨h1.kept hq, h2, h3.kept hq, h4.kept hq, ⟨h5.1.kept hq, h5.2.kept hq⟩, ⟨h6.1.kept hq, h6.2.kept hq⟩, h7, h8⟩
theorem kf.narrow (h : kf X Y A U H) (hAB : ∀ q, B q → A q) : kf X Y B U H := by
  obtain ⟨h1, h2, h3, h4, h5, h6, h7, h8⟩ := h
  exact ⟨h1.narrow hAB, h2, h3.narrow hAB, h4.narrow hAB, ⟨h5.1.narrow hAB, h5.2.narrow hAB⟩, ⟨h6.1.narrow hAB, h6.2.narrow hAB⟩, h7, h8⟩
theorem kf_t0 (h : kf X Y A s H) : vk_R rn_Dr 33 "p" (X 0) s := h.2.1 0 (rn_Dr, 33, "p") rfl
theorem kf_t1 (h : kf X Y A s H) : vk_R rn_Dr 41 "cnf" (X 1) s := h.2.1 1 (rn_Dr, 41, "cnf") rfl
theorem kf_t2 (h : kf X Y A s H) : vk_R rn_Dr 58 "d" (X 2) s := h.2.1 2 (rn_Dr, 58, "d") rfl
theorem kf_t3 (h : kf X Y A s H) : vk_R rn_Pt 77 "The text is no formula." (X 3) s := h.2.1 3 (rn_Pt, 77, "The text is no formula.") rfl
theorem kf_t4 (h : kf X Y A s H) : vk_R rn_Pt 111 "There is no formula." (X 4) s := h.2.1 4 (rn_Pt, 111, "There is no formula.") rfl
theorem kf_t5 (h : kf X Y A s H) : vk_R rn_Pt 121 "The text is no proof of that kind." (X 5) s := h.2.1 5 (rn_Pt, 121, "The text is no proof of that kind.") rfl
theorem kf_t6 (h : kf X Y A s H) : vk_R rn_Pt 127 "There is no proof." (X 6) s := h.2.1 6 (rn_Pt, 127, "There is no proof.") rfl
theorem kf_t7 (h : kf X Y A s H) : vk_R rn_Pt 190 "Nothing is checked." (X 7) s := h.2.1 7 (rn_Pt, 190, "Nothing is checked.") rfl
end KF
/-- a contract's start with all that -/
def kq (X Y : Nat → Nat) (av : List Value) (D : va_G) (cI cZ : ClassId) (ws : va_W) (sz : Nat) : Array Value → State → Prop :=
  va_Pc av (fun U => U.heap.size = sz ∧ va_P D kc_l ws U.heap ∧ va_K D kc_l [(cI, .int), (cZ, .boolean)] U ∧ va_D (fun _ => True) ws ∧ kx_N U ∧ kf X Y (va_A ws sz) U U.heap)
theorem kq_blind {X Y : Nat → Nat} {av : List Value} {D : va_G} {cI cZ : ClassId} {ws : va_W} {sz : Nat} : FrameBlind (kq X Y av D cI cZ ws sz) := fun a U g mk q => by
  obtain ⟨q0, q1, qP, qK, qD, qN, qF⟩ := q
  exact ⟨q0, q1, qP, va_K.moved (u := U) (U := U.calling g mk a) (Vm.Alike.refl U.vm) qK, qD, kx_N.same (u := U) (U := U.calling g mk a) rfl qN, kf.same (u := U) (U := U.calling g mk a) rfl qF⟩
section KQ
variable {s : State} {H : Heap} {X Y : Nat → Nat} {D : va_G} {cI cZ : ClassId} {ws wc : va_W} {A : Nat → Prop} {locs : List Loc}
theorem kq_S {av : List Value} (hP : va_P D kc_l ws H) (hD : va_D A ws) (hK : va_K D kc_l [(cI, .int), (cZ, .boolean)] s) (hN : kx_N s) (hF : kf X Y A s s.heap) (hS : va_S A s.heap H locs) (hA : ∀ q : Nat, s.heap.size ≤ q → A q) (is : List Nat) (hs : is.map (fun i => ws[i]?) = wc.map some) (hn : va_nd is = true) : PreS s H (kq X Y av D cI cZ wc H.size) av :=
  ⟨kq_blind, fun U hU hW => ⟨rfl, by rw [hU], by rw [hU]; exact hP.sub is (kx_map hs), va_K.moved hW.alike hK, (hD.sub is hn hs).weaken (fun _ _ _ _ => trivial), hN.warm hW, by
    rw [hU]
    refine ((hF.kept hS.2.1).narrow (fun q hq => ?_)).warm hW
    rcases hq with ⟨k, e, hk⟩ | hq
    · exact (hD.sub is hn hs).2 k _ hk
    · exact hA q (Nat.le_trans hS.1 hq)⟩⟩
theorem kq_V {b q0 ci : Nat} {q : vw_C} {fs : List Value} {C : String} {As : List Value} (hP : va_P D kc_l ws H) (hD : va_D A ws) (hK : va_K D kc_l [(cI, .int), (cZ, .boolean)] s) (hN : kx_N s) (hF : kf X Y A s s.heap) (hS : va_S A s.heap H locs) (hA : ∀ q : Nat, s.heap.size ≤ q → A q) (is : List Nat) (hs : is.map (fun i => ws[i]?) = wc.map some) (hn : va_nd is = true) (hc : kc_l[ci]? = some q) (hC : q.1 = C) (he : ws[q0]? = some (b, .inr (ci, fs))) : PreV s H C b (kq X Y (.ref b :: As) D cI cZ wc H.size) As :=
  ⟨kq_blind, by rw [← hC]; exact va_recv hK hP hc he, (kq_S hP hD hK hN hF hS hA is hs hn).2⟩
/-- of a text -/
theorem kq_T {i : Nat} {As : List Value} (hP : va_P D kc_l ws H) (hD : va_D A ws) (hK : va_K D kc_l [(cI, .int), (cZ, .boolean)] s) (hN : kx_N s) (hF : kf X Y A s s.heap) (hS : va_S A s.heap H locs) (hA : ∀ q : Nat, s.heap.size ≤ q → A q) (is : List Nat) (hs : is.map (fun i => ws[i]?) = wc.map some) (hn : va_nd is = true) (hi : i < 3) : PreV s H "java/lang/String" (X i) (kq X Y (.ref (X i) :: As) D cI cZ wc H.size) As :=
  ⟨kq_blind, vk_recv hF.1 hi hS, (kq_S hP hD hK hN hF hS hA is hs hn).2⟩
end KQ
/-- a reader's and a writer's contract with all that, out of their walks -/
theorem kx_metQr {l : Launch} {y : MethodName} {cc : ByteArray} {maxL : Nat} {ret : Option FieldType} {rm : Room} {X Y : Nat → Nat} {av : List Value} {D : va_G} {cI cZ : ClassId} {ws : va_W} {sz mc ms : Nat} {Qc : Array Value → State → Outcome → State → Prop} {free : Nat → Prop} (hy : plainName y.cls = true) (hlen : (lg_sl av).length ≤ maxL)
    (body : ∀ (p : Program) (e : Env) (s : State) (m : MethodId) (below : List Frame) (meth : Method) (c : Code) (ls : Array Slot) (A : Nat → Prop), p.tables.exec = Jvm.exec → c.code = cc → meth.sig.returnType = ret → c.maxLocals = maxL → (∀ w ∈ kx_all, w.before av.toArray s = true) → s.vm.findClass y.cls = some m.cls → meth.locks = false → meth.name = y.name → (∀ q : Nat, s.heap.size ≤ q → A q) → va_P D kc_l ws s.heap → va_K D kc_l [(cI, .int), (cZ, .boolean)] s → va_D A ws → kx_N s → lv_has ls maxL (lv_args 0 av) → va_S A s.heap s.heap [] → kf X Y A s s.heap →
      W p l e rm s m av.toArray below meth c s.heap [] 0 0 (MQ below Qc av.toArray s mc ms free) (F0 m 0 ls [])) : Met l y (Cond.code y cc maxL ret :: kx_all) rm (kq X Y av D cI cZ ws sz) Qc mc ms free := by
  refine Met.ofW (cc := cc) (maxL := maxL) (ret := ret) hy rfl ?_
  intro p e s m args below meth c s₁ B hml hv
  obtain ⟨rfl, rfl, hP, hK, hD, hN, hF⟩ := hv
  have hl := lv_entry av (n := maxL) hlen
  rw [lg_entry_eq]
  generalize (lg_sl av ++ List.replicate (maxL - (lg_sl av).length) Slot.unset).toArray = ls at hl ⊢
  exact body p e s m below meth c ls (va_A ws s.heap.size) B.exec B.bytes B.returns hml (fun w h => atoms_spec (ws := Cond.code y cc maxL ret :: kx_all) B.pre w (List.mem_cons_of_mem _ h)) (findClass_of_methodNamed B.named) B.notSynchronized (name_of_methodNamed B.named B.method).1 (fun q h => Or.inr h) hP hK (hD.self (sz := s.heap.size)) hN hl va_S.rf hF
theorem kx_metQw {l : Launch} {y : MethodName} {cc : ByteArray} {maxL : Nat} {ret : Option FieldType} {rm : Room} {X Y : Nat → Nat} {av : List Value} {D : va_G} {cI cZ : ClassId} {ws : va_W} {sz mc ms : Nat} {Qc : (Nat → Prop) → Array Value → State → Outcome → State → Prop} (hy : plainName y.cls = true) (hlen : (lg_sl av).length ≤ maxL)
    (body : ∀ (p : Program) (e : Env) (s : State) (m : MethodId) (below : List Frame) (meth : Method) (c : Code) (ls : Array Slot) (A : Nat → Prop), p.tables.exec = Jvm.exec → c.code = cc → meth.sig.returnType = ret → c.maxLocals = maxL → (∀ w ∈ kx_all, w.before av.toArray s = true) → s.vm.findClass y.cls = some m.cls → meth.locks = false → meth.name = y.name → (∀ q : Nat, s.heap.size ≤ q → A q) → va_P D kc_l ws s.heap → va_K D kc_l [(cI, .int), (cZ, .boolean)] s → va_D A ws → kx_N s → lv_has ls maxL (lv_args 0 av) → va_S A s.heap s.heap [] → kf X Y A s s.heap →
      W p l e rm s m av.toArray below meth c s.heap [] 0 0 (MQ below (Qc A) av.toArray s mc ms A) (F0 m 0 ls [])) : Met l y (Cond.code y cc maxL ret :: kx_all) rm (kq X Y av D cI cZ ws sz) (Qc (va_A ws sz)) mc ms (va_A ws sz) := by
  refine Met.ofW (cc := cc) (maxL := maxL) (ret := ret) hy rfl ?_
  intro p e s m args below meth c s₁ B hml hv
  obtain ⟨rfl, rfl, hP, hK, hD, hN, hF⟩ := hv
  have hl := lv_entry av (n := maxL) hlen
  rw [lg_entry_eq]
  generalize (lg_sl av ++ List.replicate (maxL - (lg_sl av).length) Slot.unset).toArray = ls at hl ⊢
  exact body p e s m below meth c ls (va_A ws s.heap.size) B.exec B.bytes B.returns hml (fun w h => atoms_spec (ws := Cond.code y cc maxL ret :: kx_all) B.pre w (List.mem_cons_of_mem _ h)) (findClass_of_methodNamed B.named) B.notSynchronized (name_of_methodNamed B.named B.method).1 (fun q h => Or.inr h) hP hK (hD.self (sz := s.heap.size)) hN hl va_S.rf hF
/-- a static method of another class -/
theorem kw_cX {R : Room} {s : State} {args : Array Value} {Ts ws ws' : List Cond} {bytes : ByteArray} {maxL index mc ms : Nat} {own : String} {y : MethodName} {ret : Option FieldType} {rm : Room} (n : Nat) (hts : ∀ w ∈ Ts, w.before args s = true) (hg : GoodIn Ts ws) (hws : ws = Cond.code y bytes maxL ret :: ws') (hc : rm.cells = mc) (hs : rm.slots = ms) (hl : (Cond.methodLink own index y).before args s = true) (hst : (Cond.static y).before args s = true) (hi : (Cond.initialized y.cls).before args s = true)
    (hy : y.cls ≠ "java/lang/invoke/MethodHandle" ∧ y.cls ≠ "java/lang/invoke/VarHandle" ∧ (parseMethodDescriptor y.desc).map (fun d => d.parameters.length) = some n) (hR : rm.frames + 1 ≤ R.frames ∧ 8 + (maxL + 11) + rm.locals ≤ R.locals) : CallB R s args own index y bytes maxL ret ws rm mc ms n ∧ (Cond.static y).before args s = true := by
  have hw : ∀ w ∈ ws, ∀ (a' : Array Value) (U : State), s.WarmedH U.vm → w.before a' U = true := fun w h a' U hW => word_at hW (hg w h).2 (hts w (hg w h).1)
  have hm : Cond.code y bytes maxL ret ∈ ws := by rw [hws]; exact List.mem_cons_self
  refine ⟨⟨hc, hs, hR.1, hR.2, hw, hm, hts _ (hg _ hm).1, hi, ⟨hy.1, hy.2.1⟩, fun sig h => ?_, hl⟩, hst⟩
  have h9 := hy.2.2
  rw [h] at h9
  exact (Option.some.inj h9).symm
section KR2
variable {p : Program} {l : Launch} {e : Env} {R : Room} {s : State} {m : MethodId} {args : Array Value} {below : List Frame} {meth : Method} {c : Code} {cc : ByteArray} {pc : Nat} {ls : Array Slot}
theorem kr_vret (hexec : p.tables.exec = Jvm.exec) (hb : c.code = cc) (hr : meth.sig.returnType = none) (hlocks : meth.locks = false) (hdg : decode cc pc = .ok (.return_, 1)) : W p l e R s m args below meth c s.heap [] 0 0 (MQ below (kr_q none) args s 0 0 (fun _ => False)) (F0 m pc ls []) := W.vret hexec hb hr (fun t ht _ => ⟨rfl, ht⟩) (fun _ h => by cases h) hdg hlocks
theorem kr_nret (hexec : p.tables.exec = Jvm.exec) (hb : c.code = cc) {ty : FieldType} (hr : meth.sig.returnType = some ty) (hlocks : meth.locks = false) {v : Int32} (hn : narrow ty (.int v) = .int v) (hdg : decode cc pc = .ok (.ireturn, 1)) : W p l e R s m args below meth c s.heap [] 0 0 (MQ below (kr_q (some (.int v))) args s 0 0 (fun _ => False)) (F0 m pc ls [.int v]) := W.zret hexec hb hr hn (fun t ht _ => ⟨rfl, ht⟩) (fun _ h => by cases h) hdg hlocks
end KR2
