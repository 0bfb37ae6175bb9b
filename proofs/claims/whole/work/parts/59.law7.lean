/-! THE CLAIM OUT OF ONE WALK OF THE LAW'S BODY. Your part is whole_start (and what it stands on); all else here is the same for every law, but numbers. -/
def R_law : String := "ProofTrimmerLaw"
def lw_P (b : Addr) (xs : List Int32) (args : Array Value) (s : State) : Prop := args = #[.ref b] ∧ s.IntsAt b xs ∧ xs.length ≤ 2048 ∧ (Jvm.Cond.and given_1 narrow_1).before args s = true
def lw_Q (_ : Array Value) (s : State) (o : Outcome) (t : State) : Prop := o = .returned (some (.int 1)) ∧ Framed s o t [] 601024 7293034
def lw_Z (below : List Frame) (a : Array Value) (s : State) : State → Prop := fun t => ∃ o, t.status = .running ∧ Ended t below o ∧ lw_Q a s o t
/-- the law's own end, with 1 on the stack, nothing written that was there before, its room as the claim has it -/
theorem lw_ret {p : Program} {l : Launch} {e : Env} {s : State} {m : MethodId} {below : List Frame} {meth : Method} {c : Code} {b : Nat} (hx : p.tables.exec = Jvm.exec) (hb : c.code = code) (hr : meth.sig.returnType = ret) (hlocks : meth.locks = false) {pc : Nat} {H : Heap} {ls : Array Slot} (hdg : decode code pc = .ok (.ireturn, 1)) : W p l e room_1 s m #[Value.ref b] below meth c H [] 601024 7293034 (lw_Z below #[Value.ref b] s) (F0 m pc ls [.int 1]) := by
  intro T hT X
  obtain ⟨fs, hret, hrun, hended, hW, hframe⟩ := X.leave (v := some (.int 1)) (hlocks := hlocks) (fun h => by rw [hr] at h; cases h)
  have hmeth' : T.vm.method? m = some meth := X.method'
  refine ⟨T.setFrames fs, ?_, .returned (some (.int 1)), hrun, hended, rfl, ⟨_, rfl⟩, hW, hframe⟩
  jvm_step X.here [X.here.top, hx, hb, hdg, hmeth', hr, ret, narrow_b1]
  (try refine ⟨rfl, ?_⟩); (try refine ⟨rfl, ?_⟩)
  first | (intro acts; rw [hret _ acts rfl rfl rfl]) | rw [hret _ _ rfl rfl rfl]
  exact Steps.refl _
/-- what holds at the law's entry: the machine, the code, the tables' words (any of lw_tbl by 'hts w (by decide +kernel)'), the script of L ints xs at the cell b, what the Statement gives of the start (any of its parts by flat_of_before) -/
def lw_At (p : Program) (s : State) (m : MethodId) (meth : Method) (c : Code) (b L : Nat) (xs : Nat → Int32) : Prop :=
  p.tables.exec = Jvm.exec ∧ c.code = code ∧ meth.sig.returnType = ret ∧ c.maxLocals = 7 ∧ s.vm.findClass R_law = some m.cls ∧ (∀ w ∈ lw_tbl, w.before #[Value.ref b] s = true) ∧ va_X b L xs s s.heap ∧ b < s.heap.size ∧ meth.locks = false ∧ (Jvm.Cond.and given_1 narrow_1).before #[Value.ref b] s = true
theorem lw_4 (i : Nat) : nI i + Int32.ofInt 4 = nI (i + 4) := by
  have h : Int32.ofInt 4 = nI 4 := by decide +kernel
  rw [h]
  exact nI_add _ _
/-! the law: its end, its loop -/
set_option maxHeartbeats 4000000 in
set_option maxRecDepth 100000 in
theorem lw_loop {p : Program} {l : Launch} {e : Env} {s : State} {m : MethodId} {below : List Frame} {meth : Method} {c : Code} {D : va_G} {cI cZ cJ : ClassId} {A : Nat → Prop} {X Y : Nat → Nat} {zs : Nat → Int32} {b L : Nat} {o xt ta xo oa xd xq qa qb qd da xc ca cb cd xs sa sb xr ra rb rd xa ia ib o2 x0 x1 x2 x3 x4 x5 x6 x7 x8 x9 x10 x11 x12 x13 x14 x15 x16 x17 xj : Nat} (hx : p.tables.exec = Jvm.exec) (hb : c.code = code) (hml : c.maxLocals = 7) (hown : s.vm.findClass rn_La = some m.cls) (hts : ∀ w ∈ kx_all, w.before #[Value.ref b] s = true) (hX : va_X b L zs s s.heap) (hbl : b < s.heap.size) (hbA : ¬ A b) (hA : ∀ q : Nat, s.heap.size ≤ q → A q) (hK : va_K D kc_l [(cI, .int), (cZ, .boolean)] s) (hKJ : va_K D kc_l [(cJ, .long)] s) (hN : kx_N s) (hF : kf X Y A s s.heap) (htl : l.stackTraces = false) (hL : L ≤ 2048) (hr : meth.sig.returnType = ret) (hlocks : meth.locks = false) (hAf : ∀ q : Nat, A q → s.heap.size ≤ q) : ∀ (K i cells slots : Nat), L < i + K → i ≤ L → cells ≤ 46 + i → slots ≤ 11400 + 3 * i → lw_K p l e s m below meth c D cI cZ cJ A (lw_Z below #[Value.ref b] s) b i cells slots 23 o xt ta xo oa xd xq qa qb qd da xc ca cb cd xs sa sb xr ra rb rd xa ia ib o2 x0 x1 x2 x3 x4 x5 x6 x7 x8 x9 x10 x11 x12 x13 x14 x15 x16 x17 xj := by
  intro K
  induction K with
  | zero => intro i cells slots h1 h2; omega
  | succ K ih =>
    intro i cells slots h1 h2 h3 h4
    intro hf hp fb tn t on ot qn gz gs gl dd cn fz fs fl sn op dl nu g ma ck ft fc fr an at1 af1 rs im mth mat mfr mto mgd mrd mcl mtr mrs mfo rz rl rdb lb kb ad hc hh r2 i2 us lt oj H locs ls hRA hRB hRC hP hD hS hl
    have hcl : cells + 2 ≤ room_1.cells := by show cells + 2 ≤ 601024; omega
    have hsl : slots + 9 ≤ room_1.slots := by show slots + 9 ≤ 7293034; omega
    refine lv_iload hx hb dc_La_law_23 (lv_at hl 4 rfl) ?_
    refine lv_aload_n hx hb dc_La_law_25 rfl (lv_at hl 0 rfl) ?_
    refine ks_len hx hb hX hbl hbA hS dc_La_law_26 ?_
    refine lv_iconst (v := nI 4) hx hb dc_La_law_27 (by decide +kernel) ?_
    refine lv_isub hx hb dc_La_law_28 ?_
    refine lv_icmp_gt hx hb dc_La_law_29 rfl (fun hc29 => ?_) (fun hc29 => ?_)
    · refine lv_iconst (v := 1) hx hb dc_La_law_713 (by decide +kernel) ?_
      refine va_forget (fun q hq => hAf _ (hS.2.2 q hq)) ?_
      refine W.widen (k := 601024) (n := 7293034) (by omega) (by omega) ?_
      exact lw_ret hx hb hr hlocks dc_La_law_714
    · have hi : i + 4 ≤ L := lw_more (by omega) hL hc29
      refine lv_aload_n hx hb dc_La_law_32 rfl (lv_at hl 0 rfl) ?_
      refine lv_iload hx hb dc_La_law_33 (lv_at hl 4 rfl) ?_
      refine ks_ld (j := i) hx hb hX hbl hbA hS (by omega) hL dc_La_law_35 ?_
      refine lv_bipush (v := nI 15) hx hb dc_La_law_36 (by decide +kernel) ?_
      refine lv_iand hx hb dc_La_law_38 ?_
      have hback : lw_K p l e s m below meth c D cI cZ cJ A (lw_Z below #[Value.ref b] s) b i (cells + 2) (slots + 9) 707 o xt ta xo oa xd xq qa qb qd da xc ca cb cd xs sa sb xr ra rb rd xa ia ib o2 x0 x1 x2 x3 x4 x5 x6 x7 x8 x9 x10 x11 x12 x13 x14 x15 x16 x17 xj := by
        intro hf hp fb tn t on ot qn gz gs gl dd cn fz fs fl sn op dl nu g ma ck ft fc fr an at1 af1 rs im mth mat mfr mto mgd mrd mcl mtr mrs mfo rz rl rdb lb kb ad hc hh r2 i2 us lt oj H locs ls hRA hRB hRC hP hD hS hl
        refine lv_iinc (k := 4) (v := nI (i + 4)) (lv' := [(4, .int (nI (i + 4))), (0, .ref b), (1, .ref o), (2, .ref o2), (3, .ref xj)]) hx hb dc_La_law_707 hl rfl (lw_4 i) (by decide) rfl (fun ls hl => ?_)
        refine lv_goto hx hb dc_La_law_710 rfl ?_
        exact ih (i + 4) (cells + 2) (slots + 9) (by omega) hi (by omega) (by omega) hf hp fb tn t on ot qn gz gs gl dd cn fz fs fl sn op dl nu g ma ck ft fc fr an at1 af1 rs im mth mat mfr mto mgd mrd mcl mtr mrs mfo rz rl rdb lb kb ad hc hh r2 i2 us lt oj H locs ls hRA hRB hRC hP hD hS (lv_sub (l' := [(0, .ref b), (1, .ref o), (2, .ref o2), (3, .ref xj), (4, .int (nI (i + 4)))]) hl [1, 2, 3, 4, 0] rfl)
      obtain ⟨k, hk, hz⟩ := lw_sw (zs i)
      refine kn_top (y := nI k) hz ?_
      match k, hk with
      | 0, _ => exact lv_tableIn (tgt := 116) (off := 77) hx hb dc_La_law_39 (by decide +kernel) (by decide +kernel) (by decide +kernel) rfl (lw_c0 hx hb hml hown hts hX hbl hbA hA hK hKJ hN hF htl hL hi hcl hsl hf hp fb tn t on ot qn gz gs gl dd cn fz fs fl sn op dl nu g ma ck ft fc fr an at1 af1 rs im mth mat mfr mto mgd mrd mcl mtr mrs mfo rz rl rdb lb kb ad hc hh r2 i2 us lt oj hRA hRB hRC hP hD hS hl hback)
      | 1, _ => exact lv_tableIn (tgt := 185) (off := 146) hx hb dc_La_law_39 (by decide +kernel) (by decide +kernel) (by decide +kernel) rfl (lw_c1 hx hb hml hown hts hX hbl hbA hA hK hKJ hN hF htl hL hi hcl hsl hf hp fb tn t on ot qn gz gs gl dd cn fz fs fl sn op dl nu g ma ck ft fc fr an at1 af1 rs im mth mat mfr mto mgd mrd mcl mtr mrs mfo rz rl rdb lb kb ad hc hh r2 i2 us lt oj hRA hRB hRC hP hD hS hl hback)
      | 2, _ => exact lv_tableIn (tgt := 198) (off := 159) hx hb dc_La_law_39 (by decide +kernel) (by decide +kernel) (by decide +kernel) rfl (lw_c2 hx hb hml hown hts hX hbl hbA hA hK hKJ hN hF htl hL hi hcl hsl hf hp fb tn t on ot qn gz gs gl dd cn fz fs fl sn op dl nu g ma ck ft fc fr an at1 af1 rs im mth mat mfr mto mgd mrd mcl mtr mrs mfo rz rl rdb lb kb ad hc hh r2 i2 us lt oj hRA hRB hRC hP hD hS hl hback)
      | 3, _ => exact lv_tableIn (tgt := 242) (off := 203) hx hb dc_La_law_39 (by decide +kernel) (by decide +kernel) (by decide +kernel) rfl (lw_c3 hx hb hml hown hts hX hbl hbA hA hK hKJ hN hF htl hL hi hcl hsl hf hp fb tn t on ot qn gz gs gl dd cn fz fs fl sn op dl nu g ma ck ft fc fr an at1 af1 rs im mth mat mfr mto mgd mrd mcl mtr mrs mfo rz rl rdb lb kb ad hc hh r2 i2 us lt oj hRA hRB hRC hP hD hS hl hback)
      | 4, _ => exact lv_tableIn (tgt := 314) (off := 275) hx hb dc_La_law_39 (by decide +kernel) (by decide +kernel) (by decide +kernel) rfl (lw_c4 hx hb hml hown hts hX hbl hbA hA hK hKJ hN hF htl hL hi hcl hsl hf hp fb tn t on ot qn gz gs gl dd cn fz fs fl sn op dl nu g ma ck ft fc fr an at1 af1 rs im mth mat mfr mto mgd mrd mcl mtr mrs mfo rz rl rdb lb kb ad hc hh r2 i2 us lt oj hRA hRB hRC hP hD hS hl hback)
      | 5, _ => exact lv_tableIn (tgt := 358) (off := 319) hx hb dc_La_law_39 (by decide +kernel) (by decide +kernel) (by decide +kernel) rfl (lw_c5 hx hb hml hown hts hX hbl hbA hA hK hKJ hN hF htl hL hi hcl hsl hf hp fb tn t on ot qn gz gs gl dd cn fz fs fl sn op dl nu g ma ck ft fc fr an at1 af1 rs im mth mat mfr mto mgd mrd mcl mtr mrs mfo rz rl rdb lb kb ad hc hh r2 i2 us lt oj hRA hRB hRC hP hD hS hl hback)
      | 6, _ => exact lv_tableIn (tgt := 371) (off := 332) hx hb dc_La_law_39 (by decide +kernel) (by decide +kernel) (by decide +kernel) rfl (lw_c6 hx hb hml hown hts hX hbl hbA hA hK hKJ hN hF htl hL hi hcl hsl hf hp fb tn t on ot qn gz gs gl dd cn fz fs fl sn op dl nu g ma ck ft fc fr an at1 af1 rs im mth mat mfr mto mgd mrd mcl mtr mrs mfo rz rl rdb lb kb ad hc hh r2 i2 us lt oj hRA hRB hRC hP hD hS hl hback)
      | 7, _ => exact lv_tableIn (tgt := 396) (off := 357) hx hb dc_La_law_39 (by decide +kernel) (by decide +kernel) (by decide +kernel) rfl (lw_c7 hx hb hml hown hts hX hbl hbA hA hK hKJ hN hF htl hL hi hcl hsl hf hp fb tn t on ot qn gz gs gl dd cn fz fs fl sn op dl nu g ma ck ft fc fr an at1 af1 rs im mth mat mfr mto mgd mrd mcl mtr mrs mfo rz rl rdb lb kb ad hc hh r2 i2 us lt oj hRA hRB hRC hP hD hS hl hback)
      | 8, _ => exact lv_tableIn (tgt := 433) (off := 394) hx hb dc_La_law_39 (by decide +kernel) (by decide +kernel) (by decide +kernel) rfl (lw_c8 hx hb hml hown hts hX hbl hbA hA hK hKJ hN hF htl hL hi hcl hsl hf hp fb tn t on ot qn gz gs gl dd cn fz fs fl sn op dl nu g ma ck ft fc fr an at1 af1 rs im mth mat mfr mto mgd mrd mcl mtr mrs mfo rz rl rdb lb kb ad hc hh r2 i2 us lt oj hRA hRB hRC hP hD hS hl hback)
      | 9, _ => exact lv_tableIn (tgt := 458) (off := 419) hx hb dc_La_law_39 (by decide +kernel) (by decide +kernel) (by decide +kernel) rfl (lw_c9 hx hb hml hown hts hX hbl hbA hA hK hKJ hN hF htl hL hi hcl hsl hf hp fb tn t on ot qn gz gs gl dd cn fz fs fl sn op dl nu g ma ck ft fc fr an at1 af1 rs im mth mat mfr mto mgd mrd mcl mtr mrs mfo rz rl rdb lb kb ad hc hh r2 i2 us lt oj hRA hRB hRC hP hD hS hl hback)
      | 10, _ => exact lv_tableIn (tgt := 483) (off := 444) hx hb dc_La_law_39 (by decide +kernel) (by decide +kernel) (by decide +kernel) rfl (lw_c10 hx hb hml hown hts hX hbl hbA hA hK hKJ hN hF htl hL hi hcl hsl hf hp fb tn t on ot qn gz gs gl dd cn fz fs fl sn op dl nu g ma ck ft fc fr an at1 af1 rs im mth mat mfr mto mgd mrd mcl mtr mrs mfo rz rl rdb lb kb ad hc hh r2 i2 us lt oj hRA hRB hRC hP hD hS hl hback)
      | 11, _ => exact lv_tableIn (tgt := 508) (off := 469) hx hb dc_La_law_39 (by decide +kernel) (by decide +kernel) (by decide +kernel) rfl (lw_c11 hx hb hml hown hts hX hbl hbA hA hK hKJ hN hF htl hL hi hcl hsl hf hp fb tn t on ot qn gz gs gl dd cn fz fs fl sn op dl nu g ma ck ft fc fr an at1 af1 rs im mth mat mfr mto mgd mrd mcl mtr mrs mfo rz rl rdb lb kb ad hc hh r2 i2 us lt oj hRA hRB hRC hP hD hS hl hback)
      | 12, _ => exact lv_tableIn (tgt := 545) (off := 506) hx hb dc_La_law_39 (by decide +kernel) (by decide +kernel) (by decide +kernel) rfl (lw_c12 hx hb hml hown hts hX hbl hbA hA hK hKJ hN hF htl hL hi hcl hsl hf hp fb tn t on ot qn gz gs gl dd cn fz fs fl sn op dl nu g ma ck ft fc fr an at1 af1 rs im mth mat mfr mto mgd mrd mcl mtr mrs mfo rz rl rdb lb kb ad hc hh r2 i2 us lt oj hRA hRB hRC hP hD hS hl hback)
      | 13, _ => exact lv_tableIn (tgt := 594) (off := 555) hx hb dc_La_law_39 (by decide +kernel) (by decide +kernel) (by decide +kernel) rfl (lw_c13 hx hb hml hown hts hX hbl hbA hA hK hKJ hN hF htl hL hi hcl hsl hf hp fb tn t on ot qn gz gs gl dd cn fz fs fl sn op dl nu g ma ck ft fc fr an at1 af1 rs im mth mat mfr mto mgd mrd mcl mtr mrs mfo rz rl rdb lb kb ad hc hh r2 i2 us lt oj hRA hRB hRC hP hD hS hl hback)
      | 14, _ => exact lv_tableIn (tgt := 638) (off := 599) hx hb dc_La_law_39 (by decide +kernel) (by decide +kernel) (by decide +kernel) rfl (lw_c14 hx hb hml hown hts hX hbl hbA hA hK hKJ hN hF htl hL hi hcl hsl hf hp fb tn t on ot qn gz gs gl dd cn fz fs fl sn op dl nu g ma ck ft fc fr an at1 af1 rs im mth mat mfr mto mgd mrd mcl mtr mrs mfo rz rl rdb lb kb ad hc hh r2 i2 us lt oj hRA hRB hRC hP hD hS hl hback)
      | 15, _ => exact lv_tableIn (tgt := 682) (off := 643) hx hb dc_La_law_39 (by decide +kernel) (by decide +kernel) (by decide +kernel) rfl (lw_c15 hx hb hml hown hts hX hbl hbA hA hK hKJ hN hF htl hL hi hcl hsl hf hp fb tn t on ot qn gz gs gl dd cn fz fs fl sn op dl nu g ma ck ft fc fr an at1 af1 rs im mth mat mfr mto mgd mrd mcl mtr mrs mfo rz rl rdb lb kb ad hc hh r2 i2 us lt oj hRA hRB hRC hP hD hS hl hback)
      | k + 16, h => omega
