/-! contracts whose end knows some of its world only by a name -/
def kw_e {X : Type} (v : Option Value) (D : va_G) (cl : List vw_C) (ws : X → va_W) (A : Nat → Prop) : Array Value → State → Outcome → State → Prop := fun _ st o t => ∃ x : X, o = .returned v ∧ va_P D cl (ws x) t.heap ∧ va_D A (ws x) ∧ va_F A st t
section KEC
variable {X : Type} {p : Program} {l : Launch} {e : Env} {R : Room} {s : State} {m : MethodId} {args : Array Value} {below : List Frame} {meth : Method} {c : Code} {H : Heap} {locs : List Loc} {cells slots : Nat} {Q : State → Prop}
variable {pc : Nat} {ls : Array Slot} {rest st0 : List Value} {a : Array Value} {A0 : Nat → Prop} {H0 : Heap} {mc ms : Nat} {D : va_G} {cl : List vw_C}
theorem kw_callE {v : Option Value} {ws wc wr : va_W} {w1 ws' : X → va_W} (hr : va_Run p l e R s m args below meth c H locs cells slots mc ms (F0 m pc ls st0) rest (kw_e v D cl w1 (va_A wc H.size) a) (va_A wc H.size)) (hP : va_P D cl ws H) (hD : va_D A0 ws) (hS : va_S A0 H0 H locs) (hA : ∀ q, H0.size ≤ q → A0 q)
    (isC isR is : List Nat) (hC : isC.map (fun i => ws[i]?) = wc.map some) (hR : isR.map (fun i => ws[i]?) = wr.map some) (hn : va_nd isR = true) (hdis : ∀ i ∈ isR, i ∉ isC) (hs : ∀ x, is.map (fun i => (wr ++ w1 x)[i]?) = (ws' x).map some) (hns : va_nd is = true)
    (kk : ∀ (x : X) (H1 : Heap) (locs1 : List Loc), va_P D cl (ws' x) H1 → va_D A0 (ws' x) → va_S A0 H0 H1 locs1 → W p l e R s m args below meth c H1 locs1 (cells + mc) (slots + ms) Q (F0 m (pc + 3) ls (v.toList ++ rest))) : W p l e R s m args below meth c H locs cells slots Q (F0 m pc ls st0) := by
  have hF := va_free (wc := wc) hD hS hA isC hC
  intro T hT X0
  obtain ⟨v', st₀, t, T', L, h0, X', hL, e1, e2, ⟨x, hv, hP1, hD1, hz, hk⟩, st⟩ := hr T hT X0
  cases hv
  rw [h0] at hz hk
  rw [← e1] at hP1 hz hk
  obtain ⟨hP2, hD2⟩ := va_join (wr := wr) (w1 := w1 x) hP hD isC isR hC hR hn hdis hk hF hP1 hD1
  obtain ⟨t2, a1, b1⟩ := kk x T'.heap (locs ++ L) (hP2.sub is (kx_map (hs x))) (hD2.sub is hns (hs x))
    ⟨Nat.le_trans hS.1 hz, fun q h1 h2 => by rw [hk q (Nat.lt_of_lt_of_le h1 hS.1) (fun z => h2 (hF q z))]; exact hS.2.1 q h1 h2, fun q hq => by
      rcases List.mem_append.mp hq with h | h
      · exact hS.2.2 q h
      · exact hF _ (hL q h)⟩ T' rfl X'
  exact ⟨t2, st t2 a1, b1⟩
theorem kw_callE1 {v : Value} {ws wc wr : va_W} {w1 ws' : X → va_W} (hr : va_Run p l e R s m args below meth c H locs cells slots mc ms (F0 m pc ls st0) rest (kw_e (some v) D cl w1 (va_A wc H.size) a) (va_A wc H.size)) (hP : va_P D cl ws H) (hD : va_D A0 ws) (hS : va_S A0 H0 H locs) (hA : ∀ q, H0.size ≤ q → A0 q)
    (isC isR is : List Nat) (hC : isC.map (fun i => ws[i]?) = wc.map some) (hR : isR.map (fun i => ws[i]?) = wr.map some) (hn : va_nd isR = true) (hdis : ∀ i ∈ isR, i ∉ isC) (hs : ∀ x, is.map (fun i => (wr ++ w1 x)[i]?) = (ws' x).map some) (hns : va_nd is = true)
    (kk : ∀ (x : X) (H1 : Heap) (locs1 : List Loc), va_P D cl (ws' x) H1 → va_D A0 (ws' x) → va_S A0 H0 H1 locs1 → W p l e R s m args below meth c H1 locs1 (cells + mc) (slots + ms) Q (F0 m (pc + 3) ls (v :: rest))) : W p l e R s m args below meth c H locs cells slots Q (F0 m pc ls st0) := kw_callE hr hP hD hS hA isC isR is hC hR hn hdis hs hns kk
theorem kw_callE0 {ws wc wr : va_W} {w1 ws' : X → va_W} (hr : va_Run p l e R s m args below meth c H locs cells slots mc ms (F0 m pc ls st0) rest (kw_e none D cl w1 (va_A wc H.size) a) (va_A wc H.size)) (hP : va_P D cl ws H) (hD : va_D A0 ws) (hS : va_S A0 H0 H locs) (hA : ∀ q, H0.size ≤ q → A0 q)
    (isC isR is : List Nat) (hC : isC.map (fun i => ws[i]?) = wc.map some) (hR : isR.map (fun i => ws[i]?) = wr.map some) (hn : va_nd isR = true) (hdis : ∀ i ∈ isR, i ∉ isC) (hs : ∀ x, is.map (fun i => (wr ++ w1 x)[i]?) = (ws' x).map some) (hns : va_nd is = true)
    (kk : ∀ (x : X) (H1 : Heap) (locs1 : List Loc), va_P D cl (ws' x) H1 → va_D A0 (ws' x) → va_S A0 H0 H1 locs1 → W p l e R s m args below meth c H1 locs1 (cells + mc) (slots + ms) Q (F0 m (pc + 3) ls rest)) : W p l e R s m args below meth c H locs cells slots Q (F0 m pc ls st0) := kw_callE hr hP hD hS hA isC isR is hC hR hn hdis hs hns kk
end KEC
section KER
variable {X : Type} {p : Program} {l : Launch} {e : Env} {R : Room} {s : State} {m : MethodId} {args : Array Value} {below : List Frame} {meth : Method} {c : Code} {H : Heap} {locs : List Loc} {cells slots : Nat}
variable {cc : ByteArray} {pc : Nat} {ls : Array Slot} {D : va_G} {cl : List vw_C} {A : Nat → Prop}
theorem ke_zret (hexec : p.tables.exec = Jvm.exec) (hb : c.code = cc) (hr : meth.sig.returnType = some .boolean) (hlocks : meth.locks = false) {ws : va_W} {ws' : X → va_W} {x : X} (hP : va_P D cl ws H) (hD : va_D A ws) (hS : va_S A s.heap H locs) {v w : Bool} (hdg : decode cc pc = .ok (.ireturn, 1)) (he : w = v) (hw : ws = ws' x) : W p l e R s m args below meth c H locs cells slots (MQ below (kw_e (some (.int (kb_i v))) D cl ws' A) args s cells slots A) (F0 m pc ls [.int (kb_i w)]) := by
  subst hw
  subst he
  exact W.zret hexec hb hr (kb_nar _) (fun t ht _ => ⟨x, rfl, by rw [ht]; exact hP, hD, hS.F ht⟩) hS.2.2 hdg hlocks
theorem ke_iret (hexec : p.tables.exec = Jvm.exec) (hb : c.code = cc) (hr : meth.sig.returnType = some .int) (hlocks : meth.locks = false) {ws : va_W} {ws' : X → va_W} {x : X} (hP : va_P D cl ws H) (hD : va_D A ws) (hS : va_S A s.heap H locs) {v w : Int32} (hdg : decode cc pc = .ok (.ireturn, 1)) (he : w = v) (hw : ws = ws' x) : W p l e R s m args below meth c H locs cells slots (MQ below (kw_e (some (.int v)) D cl ws' A) args s cells slots A) (F0 m pc ls [.int w]) := by
  subst hw
  subst he
  exact W.iret hexec hb hr (fun t ht _ => ⟨x, rfl, by rw [ht]; exact hP, hD, hS.F ht⟩) hS.2.2 hdg hlocks
end KER
theorem kx_metE {X : Type} {l : Launch} {y : MethodName} {cc : ByteArray} {maxL : Nat} {ret : Option FieldType} {rm : Room} {av : List Value} {D : va_G} {cI cZ : ClassId} {ws : va_W} {ws' : X → va_W} {sz mc ms : Nat} {v : Option Value} (hy : plainName y.cls = true) (hlen : (lg_sl av).length ≤ maxL)
    (body : ∀ (p : Program) (e : Env) (s : State) (m : MethodId) (below : List Frame) (meth : Method) (c : Code) (ls : Array Slot) (A : Nat → Prop), p.tables.exec = Jvm.exec → c.code = cc → meth.sig.returnType = ret → c.maxLocals = maxL → (∀ w ∈ kx_all, w.before av.toArray s = true) → s.vm.findClass y.cls = some m.cls → meth.locks = false → meth.name = y.name → (∀ q : Nat, s.heap.size ≤ q → A q) → va_P D kc_l ws s.heap → va_K D kc_l [(cI, .int), (cZ, .boolean)] s → va_D A ws → kx_N s → lv_has ls maxL (lv_args 0 av) → va_S A s.heap s.heap [] →
      W p l e rm s m av.toArray below meth c s.heap [] 0 0 (MQ below (kw_e v D kc_l ws' A) av.toArray s mc ms A) (F0 m 0 ls [])) : Met l y (Cond.code y cc maxL ret :: kx_all) rm (kp av D cI cZ ws sz) (kw_e v D kc_l ws' (va_A ws sz)) mc ms (va_A ws sz) := by
  refine kx_met hy hlen ?_
  intro p e s m below meth c ls hx hb hr hml hts hown hlk hnm hsz hP hK hD0 hN hl
  subst hsz
  exact body p e s m below meth c ls (va_A ws s.heap.size) hx hb hr hml hts hown hlk hnm (fun q h => Or.inr h) hP hK (hD0.self (sz := s.heap.size)) hN hl va_S.rf
