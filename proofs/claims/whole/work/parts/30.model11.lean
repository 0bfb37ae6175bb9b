/-! the reference: a clause is read -/
section KEV
variable {X : Type} {p : Program} {l : Launch} {e : Env} {R : Room} {s : State} {m : MethodId} {args : Array Value} {below : List Frame} {meth : Method} {c : Code} {H : Heap} {locs : List Loc} {cells slots : Nat}
variable {cc : ByteArray} {pc : Nat} {ls : Array Slot} {D : va_G} {cl : List vw_C} {A : Nat → Prop}
theorem ke_vret (hexec : p.tables.exec = Jvm.exec) (hb : c.code = cc) (hr : meth.sig.returnType = none) (hlocks : meth.locks = false) {ws : va_W} {ws' : X → va_W} {x : X} (hP : va_P D cl ws H) (hD : va_D A ws) (hS : va_S A s.heap H locs) (hdg : decode cc pc = .ok (.return_, 1)) (hw : ws = ws' x) : W p l e R s m args below meth c H locs cells slots (MQ below (kw_e none D cl ws' A) args s cells slots A) (F0 m pc ls []) := by
  subst hw
  exact W.vret hexec hb hr (fun t ht _ => ⟨x, rfl, by rw [ht]; exact hP, hD, hS.F ht⟩) hS.2.2 hdg hlocks
end KEV
section RC
variable {t : Nat → Nat} {tn v c k q : Nat} {fz fs : Nat → Nat} {fl : Nat → Int32} {x : Int32} {b : Nat}
theorem rc_0 (hk : k ≤ 8) (hx : pt_intv t (pt_ws t tn q) (pt_zz t tn q) = 0) : pt_rc t tn v c (9 - k) q fz fs fl = (true, pt_zz t tn q, fz, fs, fl) := by
  rw [show 9 - k = (9 - (k + 1)) + 1 by omega, pt_rc, if_pos hx]
theorem rc_no (hk : k ≤ 8) (hx : pt_intv t (pt_ws t tn q) (pt_zz t tn q) = x) (h0 : ¬ x = 0) (hl : pt_lof x = none) : pt_rc t tn v c (9 - k) q fz fs fl = (false, pt_zz t tn q, fz, fs, fl) := by
  rw [show 9 - k = (9 - (k + 1)) + 1 by omega, pt_rc, hx, if_neg h0, hl]
theorem rc_bad (hk : k ≤ 8) (hx : pt_intv t (pt_ws t tn q) (pt_zz t tn q) = x) (h0 : ¬ x = 0) (hl : pt_lof x = some b) (hc : v < b % 8 + 1 ∨ ¬ fs c &&& (2 ^ (b % 8) ||| 2 ^ (b % 8 + 8)) = 0) : pt_rc t tn v c (9 - k) q fz fs fl = (false, pt_zz t tn q, fz, fs, fl) := by
  rw [show 9 - k = (9 - (k + 1)) + 1 by omega, pt_rc, hx, if_neg h0, hl]
  dsimp only
  rw [if_pos hc]
theorem rc_go (hk : k ≤ 8) (hx : pt_intv t (pt_ws t tn q) (pt_zz t tn q) = x) (h0 : ¬ x = 0) (hl : pt_lof x = some b) (hc : ¬ (v < b % 8 + 1 ∨ ¬ fs c &&& (2 ^ (b % 8) ||| 2 ^ (b % 8 + 8)) = 0)) : pt_rc t tn v c (9 - k) q fz fs fl = pt_rc t tn v c (9 - (k + 1)) (pt_zz t tn q) (va_up fz c (fz c + 1)) (va_up fs c (fs c ||| 2 ^ b)) (upd fl (c * 8 + fz c) (pt_lit b)) := by
  rw [show 9 - k = (9 - (k + 1)) + 1 by omega, pt_rc, hx, if_neg h0, hl]
  dsimp only
  rw [if_neg hc]
theorem lof_m : pt_lof (-1000) = none := by decide +kernel
theorem iv_s {a e : Nat} (h : pt_int t a e = some x) : pt_intv t a e = x := by unfold pt_intv; rw [h]; rfl
theorem iv_no {a e : Nat} (h : pt_int t a e = none) : pt_intv t a e = (-1000) := by unfold pt_intv; rw [h]; rfl
theorem pi_e {a e : Nat} (h : ¬ a < e) : pt_int t a e = none := by rw [pi_p (fun q => h q.1), if_pos (Or.inl (by omega))]
theorem rc_none (hk : k ≤ 8) (h : pt_int t (pt_ws t tn q) (pt_zz t tn q) = none) : pt_rc t tn v c (9 - k) q fz fs fl = (false, pt_zz t tn q, fz, fs, fl) := rc_no hk (iv_no h) (by decide) lof_m
end RC
/-- the rows that the two have read are the same ones -/
def pt_rel (n : Nat) (fz : Nat → Nat) (fl : Nat → Int32) (rz : Nat → Nat) (rl : Nat → Int32) : Prop := ∀ i, i < n → rz i ≤ 8 ∧ rz i = fz (i + 1) ∧ ∀ k, k < rz i → rl (8 * i + k) = fl ((i + 1) * 8 + k)
theorem rel_0 {fz : Nat → Nat} {fl : Nat → Int32} {rz : Nat → Nat} {rl : Nat → Int32} : pt_rel 0 fz fl rz rl := fun i hi => absurd hi (Nat.not_lt_zero i)
theorem rel_st {n : Nat} {fz : Nat → Nat} {fl : Nat → Int32} {rz : Nat → Nat} {rl : Nat → Int32} (h : pt_rel n fz fl rz rl) {w w' : Nat} {k k' : Nat} {x x' : Int32} (hk : k ≤ 7) (hk' : k' ≤ 7) : pt_rel n (va_up fz (n + 1) w) (upd fl ((n + 1) * 8 + k) x) (va_up rz n w') (upd rl (8 * n + k') x') := by
  intro i hi
  obtain ⟨h1, h2, h3⟩ := h i hi
  rw [va_up_ne rz _ (by omega), va_up_ne fz _ (by omega)]
  refine ⟨h1, h2, fun j hj => ?_⟩
  unfold upd
  rw [if_neg (by omega), if_neg (by omega)]
  exact h3 j hj
theorem rel_z {n : Nat} {fz : Nat → Nat} {fl : Nat → Int32} {rz : Nat → Nat} {rl : Nat → Int32} (h : pt_rel n fz fl rz rl) {w w' : Nat} : pt_rel n (va_up fz (n + 1) w) fl (va_up rz n w') rl := by
  intro i hi
  obtain ⟨h1, h2, h3⟩ := h i hi
  rw [va_up_ne rz _ (by omega), va_up_ne fz _ (by omega)]
  exact ⟨h1, h2, h3⟩
theorem rel_en {n : Nat} {fz : Nat → Nat} {fl : Nat → Int32} {rz : Nat → Nat} {rl : Nat → Int32} (h : pt_rel n fz fl rz rl) (h8 : rz n ≤ 8) (he : rz n = fz (n + 1)) (hl : ∀ k, k < rz n → rl (8 * n + k) = fl ((n + 1) * 8 + k)) : pt_rel (n + 1) fz fl rz rl := by
  intro i hi
  by_cases hin : i = n
  · subst hin; exact ⟨h8, he, hl⟩
  · exact h i (by omega)
theorem cur_st {rl fl : Nat → Int32} {a c k : Nat} {x : Int32} (h : ∀ i, i < k → rl (a + i) = fl (c + i)) : ∀ i, i < k + 1 → upd rl (a + k) x (a + i) = upd fl (c + k) x (c + i) := by
  intro i hi
  unfold upd
  by_cases hik : i = k
  · subst hik; rw [if_pos rfl, if_pos rfl]
  · rw [if_neg (by omega), if_neg (by omega)]; exact h i (by omega)

theorem dc_Mo_readClause_0 : decode bc_Mo_readClause 0 = .ok (.aload_n 0, 1) := by decide +kernel
theorem dc_Mo_readClause_1 : decode bc_Mo_readClause 1 = .ok (.iload_n 2, 1) := by decide +kernel
theorem dc_Mo_readClause_2 : decode bc_Mo_readClause 2 = .ok (.invokevirtual 94, 3) := by decide +kernel
theorem dc_Mo_readClause_5 : decode bc_Mo_readClause 5 = .ok (.aload_n 0, 1) := by decide +kernel
theorem dc_Mo_readClause_6 : decode bc_Mo_readClause 6 = .ok (.getfield 87, 3) := by decide +kernel
theorem dc_Mo_readClause_9 : decode bc_Mo_readClause 9 = .ok (.ifCond .eq (10), 3) := by decide +kernel
theorem dc_Mo_readClause_12 : decode bc_Mo_readClause 12 = .ok (.aload_n 0, 1) := by decide +kernel
theorem dc_Mo_readClause_13 : decode bc_Mo_readClause 13 = .ok (.invokevirtual 98, 3) := by decide +kernel
theorem dc_Mo_readClause_16 : decode bc_Mo_readClause 16 = .ok (.goto (4), 3) := by decide +kernel
theorem dc_Mo_readClause_19 : decode bc_Mo_readClause 19 = .ok (.iconst 0, 1) := by decide +kernel
theorem dc_Mo_readClause_20 : decode bc_Mo_readClause 20 = .ok (.istore_n 3, 1) := by decide +kernel
theorem dc_Mo_readClause_21 : decode bc_Mo_readClause 21 = .ok (.aload_n 0, 1) := by decide +kernel
theorem dc_Mo_readClause_22 : decode bc_Mo_readClause 22 = .ok (.getfield 87, 3) := by decide +kernel
theorem dc_Mo_readClause_25 : decode bc_Mo_readClause 25 = .ok (.ifCond .eq (55), 3) := by decide +kernel
theorem dc_Mo_readClause_28 : decode bc_Mo_readClause 28 = .ok (.iload_n 3, 1) := by decide +kernel
theorem dc_Mo_readClause_29 : decode bc_Mo_readClause 29 = .ok (.ifCond .eq (51), 3) := by decide +kernel
theorem dc_Mo_readClause_32 : decode bc_Mo_readClause 32 = .ok (.aload_n 0, 1) := by decide +kernel
theorem dc_Mo_readClause_33 : decode bc_Mo_readClause 33 = .ok (.iload_n 3, 1) := by decide +kernel
theorem dc_Mo_readClause_34 : decode bc_Mo_readClause 34 = .ok (.iload_n 1, 1) := by decide +kernel
theorem dc_Mo_readClause_35 : decode bc_Mo_readClause 35 = .ok (.invokevirtual 102, 3) := by decide +kernel
theorem dc_Mo_readClause_38 : decode bc_Mo_readClause 38 = .ok (.aload_n 0, 1) := by decide +kernel
theorem dc_Mo_readClause_39 : decode bc_Mo_readClause 39 = .ok (.aload_n 0, 1) := by decide +kernel
theorem dc_Mo_readClause_40 : decode bc_Mo_readClause 40 = .ok (.getfield 87, 3) := by decide +kernel
theorem dc_Mo_readClause_43 : decode bc_Mo_readClause 43 = .ok (.ifCond .eq (14), 3) := by decide +kernel
theorem dc_Mo_readClause_46 : decode bc_Mo_readClause 46 = .ok (.aload_n 0, 1) := by decide +kernel
theorem dc_Mo_readClause_47 : decode bc_Mo_readClause 47 = .ok (.invokevirtual 106, 3) := by decide +kernel
theorem dc_Mo_readClause_50 : decode bc_Mo_readClause 50 = .ok (.ifCond .eq (7), 3) := by decide +kernel
theorem dc_Mo_readClause_53 : decode bc_Mo_readClause 53 = .ok (.iconst 1, 1) := by decide +kernel
theorem dc_Mo_readClause_54 : decode bc_Mo_readClause 54 = .ok (.goto (4), 3) := by decide +kernel
theorem dc_Mo_readClause_57 : decode bc_Mo_readClause 57 = .ok (.iconst 0, 1) := by decide +kernel
theorem dc_Mo_readClause_58 : decode bc_Mo_readClause 58 = .ok (.putfield 87, 3) := by decide +kernel
theorem dc_Mo_readClause_61 : decode bc_Mo_readClause 61 = .ok (.aload_n 0, 1) := by decide +kernel
theorem dc_Mo_readClause_62 : decode bc_Mo_readClause 62 = .ok (.getfield 87, 3) := by decide +kernel
theorem dc_Mo_readClause_65 : decode bc_Mo_readClause 65 = .ok (.ifCond .eq (10), 3) := by decide +kernel
theorem dc_Mo_readClause_68 : decode bc_Mo_readClause 68 = .ok (.aload_n 0, 1) := by decide +kernel
theorem dc_Mo_readClause_69 : decode bc_Mo_readClause 69 = .ok (.invokevirtual 98, 3) := by decide +kernel
theorem dc_Mo_readClause_72 : decode bc_Mo_readClause 72 = .ok (.goto (4), 3) := by decide +kernel
theorem dc_Mo_readClause_75 : decode bc_Mo_readClause 75 = .ok (.iconst 0, 1) := by decide +kernel
theorem dc_Mo_readClause_76 : decode bc_Mo_readClause 76 = .ok (.istore_n 3, 1) := by decide +kernel
theorem dc_Mo_readClause_77 : decode bc_Mo_readClause 77 = .ok (.goto (-56), 3) := by decide +kernel
theorem dc_Mo_readClause_80 : decode bc_Mo_readClause 80 = .ok (.aload_n 0, 1) := by decide +kernel
theorem dc_Mo_readClause_81 : decode bc_Mo_readClause 81 = .ok (.dup, 1) := by decide +kernel
theorem dc_Mo_readClause_82 : decode bc_Mo_readClause 82 = .ok (.getfield 91, 3) := by decide +kernel
theorem dc_Mo_readClause_85 : decode bc_Mo_readClause 85 = .ok (.iconst 1, 1) := by decide +kernel
theorem dc_Mo_readClause_86 : decode bc_Mo_readClause 86 = .ok (.iadd, 1) := by decide +kernel
theorem dc_Mo_readClause_87 : decode bc_Mo_readClause 87 = .ok (.putfield 91, 3) := by decide +kernel
theorem dc_Mo_readClause_90 : decode bc_Mo_readClause 90 = .ok (.return_, 1) := by decide +kernel
theorem row_rm {gl : Nat → Int32} {a : Nat} : ∀ {w : Nat} {bb pm : Nat → Nat} {z : Nat}, pt_row gl a w bb pm z → z < 65536 → pt_rm w z := by
  intro w
  induction w with
  | zero =>
    intro bb pm z h hz
    obtain ⟨h8, h0, he, hl⟩ := h
    rw [← he, h0]
    exact ⟨by decide, by decide⟩
  | succ w ih =>
    intro bb pm z h hz
    obtain ⟨h8, h0, he, hl⟩ := h
    obtain ⟨l1, l2, l3, l4, l5⟩ := hl w (by omega)
    have h1 := ih (bb := bb) (pm := pm) (z := pm w) ⟨by omega, h0, rfl, fun k hk => hl k (by omega)⟩ l5
    have h2 := (rm_step h1 l1 l3).2
    rw [← l4, he] at h2
    exact h2

set_option maxHeartbeats 4000000 in
set_option maxRecDepth 100000 in
theorem ct_Mo_readClause (l : Launch) (D : va_G) (cI cZ : ClassId) (sz : Nat) (o : Nat) (mth : Nat) (mty : Nat) (x0 : Nat) (mgd : Bool) (mrd : Nat) (x1 : Nat) (x2 : Nat) (x3 : Nat) (mhf : Bool) (mhp : Bool) (mcl : Bool) (mck : Bool) (mba : Nat) (mct : Nat) (x4 : Nat) (x5 : Nat) (x6 : Nat) (x7 : Nat) (x8 : Nat) (mst : Nat) (x9 : Nat) (x10 : Nat) (x11 : Nat) (x12 : Nat) (mtr : Nat) (mrs : Nat) (x13 : Nat) (x14 : Nat) (x15 : Nat) (x16 : Nat) (mwr : Nat) (x17 : Nat) (mfo : Nat) (t : Nat → Nat) (rz : Nat → Nat) (rl : Nat → Int32) (rd : Nat → Bool) (v : Nat) (d : Bool) (q : Nat) (fz : Nat → Nat) (fs : Nat → Nat) (fl : Nat → Int32) (hgd : mgd = true) (hrd : mrd < 16) (hty : mty ≤ 250) (ht : ∀ j, t j < 256) (hq : q ≤ mty) (hv8 : v ≤ 8) (hrel : pt_rel mrd fz fl rz rl) : Met l yn_Mo_readClause (Cond.code yn_Mo_readClause bc_Mo_readClause 4 none :: kx_all) ({ frames := 2, cells := 0, slots := 0, locals := 40 } : Room) (kp [.ref o, .int (nI v), .int (kb_i d)] D cI cZ [mo_c o mth mty x0 (pt_zz t mty q) (pt_ws t mty q) (pt_zz t mty q) mgd mrd x1 x2 x3 mhf mhp mcl mck mba mct x4 x5 x6 x7 x8 mst x9 x10 x11 x12 mtr mrs x13 x14 x15 x16 mwr x17 mfo, ar_n cI x0 250 t, ar_n cI x1 16 rz, ar_i cI x2 128 rl, ar_b cZ x3 16 rd] sz) (kw_e none D kc_l (fun ex : { e : Nat × Nat × Nat × (Nat → Nat) × (Nat → Int32) // (pt_rc t mty v (mrd + 1) 9 q (va_up fz (mrd + 1) 0) (va_up fs (mrd + 1) 0) fl).1 = true → e.1 = (pt_rc t mty v (mrd + 1) 9 q (va_up fz (mrd + 1) 0) (va_up fs (mrd + 1) 0) fl).2.1 ∧ pt_rel (mrd + 1) (pt_rc t mty v (mrd + 1) 9 q (va_up fz (mrd + 1) 0) (va_up fs (mrd + 1) 0) fl).2.2.1 (pt_rc t mty v (mrd + 1) 9 q (va_up fz (mrd + 1) 0) (va_up fs (mrd + 1) 0) fl).2.2.2.2 e.2.2.2.1 e.2.2.2.2 } => [mo_c o mth mty x0 ex.1.1 ex.1.2.1 ex.1.2.2.1 ((pt_rc t mty v (mrd + 1) 9 q (va_up fz (mrd + 1) 0) (va_up fs (mrd + 1) 0) fl).1) (mrd + 1) x1 x2 x3 mhf mhp mcl mck mba mct x4 x5 x6 x7 x8 mst x9 x10 x11 x12 mtr mrs x13 x14 x15 x16 mwr x17 mfo, ar_n cI x0 250 t, ar_n cI x1 16 ex.1.2.2.2.1, ar_i cI x2 128 ex.1.2.2.2.2, ar_b cZ x3 16 (va_up rd mrd d)]) (va_A [mo_c o mth mty x0 (pt_zz t mty q) (pt_ws t mty q) (pt_zz t mty q) mgd mrd x1 x2 x3 mhf mhp mcl mck mba mct x4 x5 x6 x7 x8 mst x9 x10 x11 x12 mtr mrs x13 x14 x15 x16 mwr x17 mfo, ar_n cI x0 250 t, ar_n cI x1 16 rz, ar_i cI x2 128 rl, ar_b cZ x3 16 rd] sz)) 0 0 (va_A [mo_c o mth mty x0 (pt_zz t mty q) (pt_ws t mty q) (pt_zz t mty q) mgd mrd x1 x2 x3 mhf mhp mcl mck mba mct x4 x5 x6 x7 x8 mst x9 x10 x11 x12 mtr mrs x13 x14 x15 x16 mwr x17 mfo, ar_n cI x0 250 t, ar_n cI x1 16 rz, ar_i cI x2 128 rl, ar_b cZ x3 16 rd] sz) := by
  refine kx_metE (by decide) (Nat.le_of_ble_eq_true rfl) ?_
  intro p e s m below meth c ls A hx hb hr hml hts hown hlocks hin hA hP hK hD hN hl hS
  have hown : s.vm.findClass rn_Mo = some m.cls := hown
  have hl : lv_has ls 4 [(0, .ref o), (1, .int (nI v)), (2, .int (kb_i d))] := hl
  refine lv_aload_n hx hb dc_Mo_readClause_0 rfl (lv_at hl 0 rfl) ?_
  refine lv_iload_n hx hb dc_Mo_readClause_1 rfl (lv_at hl 2 rfl) ?_
  refine kw_call0 (wr := [ar_n cI x0 250 t, ar_i cI x2 128 rl]) (ws' := [mo_c o mth mty x0 (pt_zz t mty q) (pt_ws t mty q) (pt_zz t mty q) true mrd x1 x2 x3 mhf mhp mcl mck mba mct x4 x5 x6 x7 x8 mst x9 x10 x11 x12 mtr mrs x13 x14 x15 x16 mwr x17 mfo, ar_n cI x0 250 t, ar_n cI x1 16 (va_up rz mrd 0), ar_i cI x2 128 rl, ar_b cZ x3 16 (va_up rd mrd d)]) (va_runV (As := [.int (kb_i d)]) (rest := []) ⟨hx, hb, hml, hown, hts⟩ (ct_Mo_beginClause l D cI cZ _ o mth mty x0 (pt_zz t mty q) (pt_ws t mty q) (pt_zz t mty q) mgd mrd x1 x2 x3 mhf mhp mcl mck mba mct x4 x5 x6 x7 x8 mst x9 x10 x11 x12 mtr mrs x13 x14 x15 x16 mwr x17 mfo rz rd d (hgd) (hrd)) (cwV 1 hts (kx_gV wd_895 wd_897 (kx_sel (q := (yn_Mo_beginClause, 36)) (List.mem_append_right _ (List.mem_append_left _ (List.mem_of_getElem? (i := 1) rfl)))) wd_9 wd_898) rfl rfl rfl ⟨rfl, yd_Mo_beginClause⟩ ⟨Nat.le_of_ble_eq_true rfl, Nat.le_of_ble_eq_true rfl⟩) (kp_V (q0 := 0) (ci := 10) hP hD hK hN [0, 2, 4] rfl rfl rfl rfl rfl) rfl rfl hl.1 rfl (lv_room (Nat.le_of_ble_eq_true rfl)) dc_Mo_readClause_2 ⟨Nat.le_of_ble_eq_true rfl, Nat.le_of_ble_eq_true rfl⟩) hP hD hS hA [0, 2, 4] [1, 3] [2, 0, 3, 1, 4] rfl rfl rfl (by decide) rfl rfl (fun H locs hP hD hS => ?_)
  refine lv_aload_n hx hb dc_Mo_readClause_5 rfl (lv_at hl 0 rfl) ?_
  refine va_get (ci := 10) (v := .int (kb_i true)) (C := rn_Mo) (T := fd_Mo) (N := 36) hx hb hts in_Mo hown hK hP 0 rfl rfl 6 (by decide) (hts _ wd_752) (fun _ h9 => h9) rfl dc_Mo_readClause_6 ?_
  refine kb_if_eq hx hb dc_Mo_readClause_9 rfl (fun hc9 => ?_) (fun hc9 => ?_)
  · exact absurd hc9 (by decide)
  · refine lv_aload_n hx hb dc_Mo_readClause_12 rfl (lv_at hl 0 rfl) ?_
    refine kw_call1 (wr := [ar_n cI x1 16 (va_up rz mrd 0), ar_i cI x2 128 rl, ar_b cZ x3 16 (va_up rd mrd d)]) (ws' := [mo_c o mth mty x0 (pt_zz t mty q) (pt_ws t mty q) (pt_zz t mty q) ((pt_int t (pt_ws t mty q) (pt_zz t mty q)).isSome) mrd x1 x2 x3 mhf mhp mcl mck mba mct x4 x5 x6 x7 x8 mst x9 x10 x11 x12 mtr mrs x13 x14 x15 x16 mwr x17 mfo, ar_n cI x0 250 t, ar_n cI x1 16 (va_up rz mrd 0), ar_i cI x2 128 rl, ar_b cZ x3 16 (va_up rd mrd d)]) (va_runV (As := []) (rest := []) ⟨hx, hb, hml, hown, hts⟩ (ct_Mo_integer l D cI cZ _ o mth mty x0 (pt_zz t mty q) (pt_ws t mty q) (pt_zz t mty q) true mrd x1 x2 x3 mhf mhp mcl mck mba mct x4 x5 x6 x7 x8 mst x9 x10 x11 x12 mtr mrs x13 x14 x15 x16 mwr x17 mfo t (rfl) (ws_zz _ _ _) (Nat.le_trans (zz_le hq) hty) (ht)) (cwV 0 hts (kx_gV wd_887 wd_889 (kx_sel (q := (yn_Mo_integer, 36)) (List.mem_append_left _ (List.mem_of_getElem? (i := 15) rfl))) wd_9 wd_890) rfl rfl rfl ⟨rfl, yd_Mo_integer⟩ ⟨Nat.le_of_ble_eq_true rfl, Nat.le_of_ble_eq_true rfl⟩) (kp_V (q0 := 0) (ci := 10) hP hD hK hN [0, 1] rfl rfl rfl rfl rfl) rfl rfl hl.1 rfl (lv_room (Nat.le_of_ble_eq_true rfl)) dc_Mo_readClause_13 ⟨Nat.le_of_ble_eq_true rfl, Nat.le_of_ble_eq_true rfl⟩) hP hD hS hA [0, 1] [2, 3, 4] [3, 4, 0, 1, 2] rfl rfl rfl (by decide) rfl rfl (fun H locs hP hD hS => ?_)
    rcases hpi : pt_int t (pt_ws t mty q) (pt_zz t mty q) with _ | y0
    · have hZf : (pt_rc t mty v (mrd + 1) 9 q (va_up fz (mrd + 1) 0) (va_up fs (mrd + 1) 0) fl).1 = false := by rw [show (9 : Nat) = 9 - 0 from rfl, rc_none (by decide) hpi]
      have hP : va_P D kc_l [mo_c o mth mty x0 (pt_zz t mty q) (pt_ws t mty q) (pt_zz t mty q) false mrd x1 x2 x3 mhf mhp mcl mck mba mct x4 x5 x6 x7 x8 mst x9 x10 x11 x12 mtr mrs x13 x14 x15 x16 mwr x17 mfo, ar_n cI x0 250 t, ar_n cI x1 16 (va_up rz mrd 0), ar_i cI x2 128 rl, ar_b cZ x3 16 (va_up rd mrd d)] H := by rw [show (false : Bool) = (pt_int t (pt_ws t mty q) (pt_zz t mty q)).isSome by rw [hpi]; rfl]; exact hP
      have hD : va_D A [mo_c o mth mty x0 (pt_zz t mty q) (pt_ws t mty q) (pt_zz t mty q) false mrd x1 x2 x3 mhf mhp mcl mck mba mct x4 x5 x6 x7 x8 mst x9 x10 x11 x12 mtr mrs x13 x14 x15 x16 mwr x17 mfo, ar_n cI x0 250 t, ar_n cI x1 16 (va_up rz mrd 0), ar_i cI x2 128 rl, ar_b cZ x3 16 (va_up rd mrd d)] := by rw [show (false : Bool) = (pt_int t (pt_ws t mty q) (pt_zz t mty q)).isSome by rw [hpi]; rfl]; exact hD
      refine kn_top (y := nI 0) rfl ?_
      refine lv_goto hx hb dc_Mo_readClause_16 rfl ?_
      refine lv_istore_n (lv' := [(3, .int (nI 0)), (0, .ref o), (1, .int (nI v)), (2, .int (kb_i d))]) hx hb dc_Mo_readClause_20 rfl hl (by decide) rfl (fun ls hl => ?_)
      refine lv_aload_n hx hb dc_Mo_readClause_21 rfl (lv_at hl 1 rfl) ?_
      refine va_get (ci := 10) (v := .int (kb_i false)) (C := rn_Mo) (T := fd_Mo) (N := 36) hx hb hts in_Mo hown hK hP 0 rfl rfl 6 (by decide) (hts _ wd_752) (fun _ h9 => h9) rfl dc_Mo_readClause_22 ?_
      refine kb_if_eq hx hb dc_Mo_readClause_25 rfl (fun hc25 => ?_) (fun hc25 => ?_)
      · refine lv_aload_n hx hb dc_Mo_readClause_80 rfl (lv_at hl 1 rfl) ?_
        refine lv_dup hx hb dc_Mo_readClause_81 rfl ?_
        refine va_get (ci := 10) (v := .int (nI mrd)) (C := rn_Mo) (T := fd_Mo) (N := 36) hx hb hts in_Mo hown hK hP 0 rfl rfl 7 (by decide) (hts _ wd_753) (fun _ h9 => h9) rfl dc_Mo_readClause_82 ?_
        refine lv_iconst (v := nI 1) hx hb dc_Mo_readClause_85 (by decide +kernel) ?_
        refine kn_iadd hx hb dc_Mo_readClause_86 ?_
        refine va_put (ci := 10) (v := .int (nI (mrd + 1))) (ty := .int) (C := rn_Mo) (T := fd_Mo) (N := 36) hx hb hts in_Mo ty_Mo tk_Mo nm_Mo hown hK hP hD hS 0 rfl rfl 7 (by decide) (hts _ wd_753) (fun _ h9 => h9) rfl (by decide +kernel) rfl rfl (Nat.le_of_ble_eq_true rfl) dc_Mo_readClause_87 (fun H locs hP hD hS => ?_)
        have hP : va_P D kc_l [mo_c o mth mty x0 (pt_zz t mty q) (pt_ws t mty q) (pt_zz t mty q) false (mrd + 1) x1 x2 x3 mhf mhp mcl mck mba mct x4 x5 x6 x7 x8 mst x9 x10 x11 x12 mtr mrs x13 x14 x15 x16 mwr x17 mfo, ar_n cI x0 250 t, ar_n cI x1 16 (va_up rz mrd 0), ar_i cI x2 128 rl, ar_b cZ x3 16 (va_up rd mrd d)] H := hP
        have hD : va_D A [mo_c o mth mty x0 (pt_zz t mty q) (pt_ws t mty q) (pt_zz t mty q) false (mrd + 1) x1 x2 x3 mhf mhp mcl mck mba mct x4 x5 x6 x7 x8 mst x9 x10 x11 x12 mtr mrs x13 x14 x15 x16 mwr x17 mfo, ar_n cI x0 250 t, ar_n cI x1 16 (va_up rz mrd 0), ar_i cI x2 128 rl, ar_b cZ x3 16 (va_up rd mrd d)] := hD
        exact ke_vret (x := ⟨(pt_zz t mty q, pt_ws t mty q, pt_zz t mty q, va_up rz mrd 0, rl), fun q9 => absurd q9 (by rw [hZf]; decide)⟩) hx hb hr hlocks hP hD hS dc_Mo_readClause_90 (by dsimp only; rw [hZf])
      · exact absurd hc25 (by decide)
    · have hP : va_P D kc_l [mo_c o mth mty x0 (pt_zz t mty q) (pt_ws t mty q) (pt_zz t mty q) true mrd x1 x2 x3 mhf mhp mcl mck mba mct x4 x5 x6 x7 x8 mst x9 x10 x11 x12 mtr mrs x13 x14 x15 x16 mwr x17 mfo, ar_n cI x0 250 t, ar_n cI x1 16 (va_up rz mrd 0), ar_i cI x2 128 rl, ar_b cZ x3 16 (va_up rd mrd d)] H := by rw [show (true : Bool) = (pt_int t (pt_ws t mty q) (pt_zz t mty q)).isSome by rw [hpi]; rfl]; exact hP
      have hD : va_D A [mo_c o mth mty x0 (pt_zz t mty q) (pt_ws t mty q) (pt_zz t mty q) true mrd x1 x2 x3 mhf mhp mcl mck mba mct x4 x5 x6 x7 x8 mst x9 x10 x11 x12 mtr mrs x13 x14 x15 x16 mwr x17 mfo, ar_n cI x0 250 t, ar_n cI x1 16 (va_up rz mrd 0), ar_i cI x2 128 rl, ar_b cZ x3 16 (va_up rd mrd d)] := by rw [show (true : Bool) = (pt_int t (pt_ws t mty q) (pt_zz t mty q)).isSome by rw [hpi]; rfl]; exact hD
      refine kn_top (y := y0) rfl ?_
      refine lv_goto hx hb dc_Mo_readClause_16 rfl ?_
      refine lv_istore_n (lv' := [(3, .int y0), (0, .ref o), (1, .int (nI v)), (2, .int (kb_i d))]) hx hb dc_Mo_readClause_20 rfl hl (by decide) rfl (fun ls hl => ?_)
      have lp_21 : ∀ (K : Nat) (k : Nat) (q1 : Nat) (x : Int32) (fz1 : Nat → Nat) (fs1 : Nat → Nat) (fl1 : Nat → Int32) (rz1 : Nat → Nat) (rl1 : Nat → Int32) (bb : Nat → Nat) (pm : Nat → Nat) (H : Heap) (locs : List Loc) (ls : Array Slot), 9 - k < K → va_P D kc_l [mo_c o mth mty x0 (pt_zz t mty q1) (pt_ws t mty q1) (pt_zz t mty q1) true mrd x1 x2 x3 mhf mhp mcl mck mba mct x4 x5 x6 x7 x8 mst x9 x10 x11 x12 mtr mrs x13 x14 x15 x16 mwr x17 mfo, ar_n cI x0 250 t, ar_n cI x1 16 rz1, ar_i cI x2 128 rl1, ar_b cZ x3 16 (va_up rd mrd d)] H → va_D A [mo_c o mth mty x0 (pt_zz t mty q1) (pt_ws t mty q1) (pt_zz t mty q1) true mrd x1 x2 x3 mhf mhp mcl mck mba mct x4 x5 x6 x7 x8 mst x9 x10 x11 x12 mtr mrs x13 x14 x15 x16 mwr x17 mfo, ar_n cI x0 250 t, ar_n cI x1 16 rz1, ar_i cI x2 128 rl1, ar_b cZ x3 16 (va_up rd mrd d)] → va_S A s.heap H locs → lv_has ls 4 [(3, .int x), (0, .ref o), (1, .int (nI v)), (2, .int (kb_i d))] → (pt_rc t mty v (mrd + 1) (9 - k) q1 fz1 fs1 fl1 = pt_rc t mty v (mrd + 1) 9 q (va_up fz (mrd + 1) 0) (va_up fs (mrd + 1) 0) fl) → (pt_int t (pt_ws t mty q1) (pt_zz t mty q1) = some x) → (q1 ≤ mty) → (pt_row rl1 (8 * mrd) k bb pm (fs1 (mrd + 1))) → (rz1 mrd = k ∧ fz1 (mrd + 1) = k) → (fs1 (mrd + 1) < 65536) → (pt_rel mrd fz1 fl1 rz1 rl1) → (∀ i, i < k → rl1 (8 * mrd + i) = fl1 ((mrd + 1) * 8 + i)) → W p l e ({ frames := 2, cells := 0, slots := 0, locals := 40 } : Room) s m ([.ref o, .int (nI v), .int (kb_i d)] : List Value).toArray below meth c H locs 0 0 (MQ below (kw_e none D kc_l (fun ex : { e : Nat × Nat × Nat × (Nat → Nat) × (Nat → Int32) // (pt_rc t mty v (mrd + 1) 9 q (va_up fz (mrd + 1) 0) (va_up fs (mrd + 1) 0) fl).1 = true → e.1 = (pt_rc t mty v (mrd + 1) 9 q (va_up fz (mrd + 1) 0) (va_up fs (mrd + 1) 0) fl).2.1 ∧ pt_rel (mrd + 1) (pt_rc t mty v (mrd + 1) 9 q (va_up fz (mrd + 1) 0) (va_up fs (mrd + 1) 0) fl).2.2.1 (pt_rc t mty v (mrd + 1) 9 q (va_up fz (mrd + 1) 0) (va_up fs (mrd + 1) 0) fl).2.2.2.2 e.2.2.2.1 e.2.2.2.2 } => [mo_c o mth mty x0 ex.1.1 ex.1.2.1 ex.1.2.2.1 ((pt_rc t mty v (mrd + 1) 9 q (va_up fz (mrd + 1) 0) (va_up fs (mrd + 1) 0) fl).1) (mrd + 1) x1 x2 x3 mhf mhp mcl mck mba mct x4 x5 x6 x7 x8 mst x9 x10 x11 x12 mtr mrs x13 x14 x15 x16 mwr x17 mfo, ar_n cI x0 250 t, ar_n cI x1 16 ex.1.2.2.2.1, ar_i cI x2 128 ex.1.2.2.2.2, ar_b cZ x3 16 (va_up rd mrd d)]) A) ([.ref o, .int (nI v), .int (kb_i d)] : List Value).toArray s 0 0 A) (F0 m 21 ls []) := by
        intro K
        induction K with
        | zero =>
          intro k q1 x fz1 fs1 fl1 rz1 rl1 bb pm H locs ls hk
          exact absurd hk (Nat.not_lt_zero _)
        | succ K ih_21 =>
          intro k q1 x fz1 fs1 fl1 rz1 rl1 bb pm H locs ls hk hP hD hS hl h1 hx1 h4 hrow hk1 hs16 hr1 hcu
          refine lv_aload_n hx hb dc_Mo_readClause_21 rfl (lv_at hl 1 rfl) ?_
          refine va_get (ci := 10) (v := .int (kb_i true)) (C := rn_Mo) (T := fd_Mo) (N := 36) hx hb hts in_Mo hown hK hP 0 rfl rfl 6 (by decide) (hts _ wd_752) (fun _ h9 => h9) rfl dc_Mo_readClause_22 ?_
          refine kb_if_eq hx hb dc_Mo_readClause_25 rfl (fun hc25 => ?_) (fun hc25 => ?_)
          · exact absurd hc25 (by decide)
          · refine lv_iload_n hx hb dc_Mo_readClause_28 rfl (lv_at hl 0 rfl) ?_
            refine lv_if_eq hx hb dc_Mo_readClause_29 rfl (fun hc29 => ?_) (fun hc29 => ?_)
            · have hZt : (pt_rc t mty v (mrd + 1) 9 q (va_up fz (mrd + 1) 0) (va_up fs (mrd + 1) 0) fl) = (true, pt_zz t mty q1, fz1, fs1, fl1) := by rw [← h1, rc_0 hrow.1 (by rw [iv_s hx1, hc29])]
              have hre : pt_rel (mrd + 1) fz1 fl1 rz1 rl1 := rel_en hr1 (by rw [hk1.1]; exact hrow.1) (by rw [hk1.1, hk1.2]) (fun i hi => hcu i (by rw [hk1.1] at hi; exact hi))
              refine lv_aload_n hx hb dc_Mo_readClause_80 rfl (lv_at hl 1 rfl) ?_
              refine lv_dup hx hb dc_Mo_readClause_81 rfl ?_
              refine va_get (ci := 10) (v := .int (nI mrd)) (C := rn_Mo) (T := fd_Mo) (N := 36) hx hb hts in_Mo hown hK hP 0 rfl rfl 7 (by decide) (hts _ wd_753) (fun _ h9 => h9) rfl dc_Mo_readClause_82 ?_
              refine lv_iconst (v := nI 1) hx hb dc_Mo_readClause_85 (by decide +kernel) ?_
              refine kn_iadd hx hb dc_Mo_readClause_86 ?_
              refine va_put (ci := 10) (v := .int (nI (mrd + 1))) (ty := .int) (C := rn_Mo) (T := fd_Mo) (N := 36) hx hb hts in_Mo ty_Mo tk_Mo nm_Mo hown hK hP hD hS 0 rfl rfl 7 (by decide) (hts _ wd_753) (fun _ h9 => h9) rfl (by decide +kernel) rfl rfl (Nat.le_of_ble_eq_true rfl) dc_Mo_readClause_87 (fun H locs hP hD hS => ?_)
              have hP : va_P D kc_l [mo_c o mth mty x0 (pt_zz t mty q1) (pt_ws t mty q1) (pt_zz t mty q1) true (mrd + 1) x1 x2 x3 mhf mhp mcl mck mba mct x4 x5 x6 x7 x8 mst x9 x10 x11 x12 mtr mrs x13 x14 x15 x16 mwr x17 mfo, ar_n cI x0 250 t, ar_n cI x1 16 rz1, ar_i cI x2 128 rl1, ar_b cZ x3 16 (va_up rd mrd d)] H := hP
              have hD : va_D A [mo_c o mth mty x0 (pt_zz t mty q1) (pt_ws t mty q1) (pt_zz t mty q1) true (mrd + 1) x1 x2 x3 mhf mhp mcl mck mba mct x4 x5 x6 x7 x8 mst x9 x10 x11 x12 mtr mrs x13 x14 x15 x16 mwr x17 mfo, ar_n cI x0 250 t, ar_n cI x1 16 rz1, ar_i cI x2 128 rl1, ar_b cZ x3 16 (va_up rd mrd d)] := hD
              exact ke_vret (x := ⟨(pt_zz t mty q1, pt_ws t mty q1, pt_zz t mty q1, rz1, rl1), fun _ => by rw [hZt]; exact ⟨rfl, hre⟩⟩) hx hb hr hlocks hP hD hS dc_Mo_readClause_90 (by dsimp only; rw [hZt])
            · have hk8 := hrow.1
              rcases hlo : pt_lof x with _ | b
              · have hZf : (pt_rc t mty v (mrd + 1) 9 q (va_up fz (mrd + 1) 0) (va_up fs (mrd + 1) 0) fl).1 = false := by rw [← h1, rc_no hk8 (iv_s hx1) hc29 hlo]
                refine lv_aload_n hx hb dc_Mo_readClause_32 rfl (lv_at hl 1 rfl) ?_
                refine lv_iload_n hx hb dc_Mo_readClause_33 rfl (lv_at hl 0 rfl) ?_
                refine lv_iload_n hx hb dc_Mo_readClause_34 rfl (lv_at hl 2 rfl) ?_
                refine kw_call0 (wr := [ar_n cI x0 250 t, ar_i cI x2 128 rl1, ar_b cZ x3 16 (va_up rd mrd d)]) (ws' := [mo_c o mth mty x0 (pt_zz t mty q1) (pt_ws t mty q1) (pt_zz t mty q1) false mrd x1 x2 x3 mhf mhp mcl mck mba mct x4 x5 x6 x7 x8 mst x9 x10 x11 x12 mtr mrs x13 x14 x15 x16 mwr x17 mfo, ar_n cI x0 250 t, ar_n cI x1 16 rz1, ar_i cI x2 128 rl1, ar_b cZ x3 16 (va_up rd mrd d)]) (va_runV (As := [.int x, .int (nI v)]) (rest := []) ⟨hx, hb, hml, hown, hts⟩ (ct_Mo_take_no l D cI cZ _ o mth mty x0 (pt_zz t mty q1) (pt_ws t mty q1) (pt_zz t mty q1) true mrd x1 x2 x3 mhf mhp mcl mck mba mct x4 x5 x6 x7 x8 mst x9 x10 x11 x12 mtr mrs x13 x14 x15 x16 mwr x17 mfo rz1 x v (rfl) (hrd) (hv8) (lof_none hlo) (by rw [hk1.1]; exact hk8)) (cwV 2 hts (kx_gV wd_899 wd_901 (kx_sel (q := (yn_Mo_take, 36)) (List.mem_append_right _ (List.mem_append_left _ (List.mem_of_getElem? (i := 2) rfl)))) wd_9 wd_902) rfl rfl rfl ⟨rfl, yd_Mo_take⟩ ⟨Nat.le_of_ble_eq_true rfl, Nat.le_of_ble_eq_true rfl⟩) (kp_V (q0 := 0) (ci := 10) hP hD hK hN [0, 2] rfl rfl rfl rfl rfl) rfl rfl hl.1 rfl (lv_room (Nat.le_of_ble_eq_true rfl)) dc_Mo_readClause_35 ⟨Nat.le_of_ble_eq_true rfl, Nat.le_of_ble_eq_true rfl⟩) hP hD hS hA [0, 2] [1, 3, 4] [3, 0, 4, 1, 2] rfl rfl rfl (by decide) rfl rfl (fun H locs hP hD hS => ?_)
                refine lv_aload_n hx hb dc_Mo_readClause_38 rfl (lv_at hl 1 rfl) ?_
                refine lv_aload_n hx hb dc_Mo_readClause_39 rfl (lv_at hl 1 rfl) ?_
                refine va_get (ci := 10) (v := .int (kb_i false)) (C := rn_Mo) (T := fd_Mo) (N := 36) hx hb hts in_Mo hown hK hP 0 rfl rfl 6 (by decide) (hts _ wd_752) (fun _ h9 => h9) rfl dc_Mo_readClause_40 ?_
                refine kb_if_eq hx hb dc_Mo_readClause_43 rfl (fun hc43 => ?_) (fun hc43 => ?_)
                · refine lv_iconst (v := nI 0) hx hb dc_Mo_readClause_57 (by decide +kernel) ?_
                  refine kn_top (y := kb_i false) (by decide +kernel) ?_
                  refine va_put (ci := 10) (v := .int (kb_i false)) (ty := .boolean) (C := rn_Mo) (T := fd_Mo) (N := 36) hx hb hts in_Mo ty_Mo tk_Mo nm_Mo hown hK hP hD hS 0 rfl rfl 6 (by decide) (hts _ wd_752) (fun _ h9 => h9) rfl (by decide +kernel) (kb_nar _) (kb_fit _) (Nat.le_of_ble_eq_true rfl) dc_Mo_readClause_58 (fun H locs hP hD hS => ?_)
                  have hP : va_P D kc_l [mo_c o mth mty x0 (pt_zz t mty q1) (pt_ws t mty q1) (pt_zz t mty q1) false mrd x1 x2 x3 mhf mhp mcl mck mba mct x4 x5 x6 x7 x8 mst x9 x10 x11 x12 mtr mrs x13 x14 x15 x16 mwr x17 mfo, ar_n cI x0 250 t, ar_n cI x1 16 rz1, ar_i cI x2 128 rl1, ar_b cZ x3 16 (va_up rd mrd d)] H := hP
                  have hD : va_D A [mo_c o mth mty x0 (pt_zz t mty q1) (pt_ws t mty q1) (pt_zz t mty q1) false mrd x1 x2 x3 mhf mhp mcl mck mba mct x4 x5 x6 x7 x8 mst x9 x10 x11 x12 mtr mrs x13 x14 x15 x16 mwr x17 mfo, ar_n cI x0 250 t, ar_n cI x1 16 rz1, ar_i cI x2 128 rl1, ar_b cZ x3 16 (va_up rd mrd d)] := hD
                  refine lv_aload_n hx hb dc_Mo_readClause_61 rfl (lv_at hl 1 rfl) ?_
                  refine va_get (ci := 10) (v := .int (kb_i false)) (C := rn_Mo) (T := fd_Mo) (N := 36) hx hb hts in_Mo hown hK hP 0 rfl rfl 6 (by decide) (hts _ wd_752) (fun _ h9 => h9) rfl dc_Mo_readClause_62 ?_
                  refine kb_if_eq hx hb dc_Mo_readClause_65 rfl (fun hc65 => ?_) (fun hc65 => ?_)
                  · refine lv_iconst (v := nI 0) hx hb dc_Mo_readClause_75 (by decide +kernel) ?_
                    refine lv_istore_n (lv' := [(3, .int (nI 0)), (0, .ref o), (1, .int (nI v)), (2, .int (kb_i d))]) hx hb dc_Mo_readClause_76 rfl hl (by decide) rfl (fun ls hl => ?_)
                    refine lv_goto hx hb dc_Mo_readClause_77 rfl ?_
                    refine lv_aload_n hx hb dc_Mo_readClause_21 rfl (lv_at hl 1 rfl) ?_
                    refine va_get (ci := 10) (v := .int (kb_i false)) (C := rn_Mo) (T := fd_Mo) (N := 36) hx hb hts in_Mo hown hK hP 0 rfl rfl 6 (by decide) (hts _ wd_752) (fun _ h9 => h9) rfl dc_Mo_readClause_22 ?_
                    refine kb_if_eq hx hb dc_Mo_readClause_25 rfl (fun hc25 => ?_) (fun hc25 => ?_)
                    · refine lv_aload_n hx hb dc_Mo_readClause_80 rfl (lv_at hl 1 rfl) ?_
                      refine lv_dup hx hb dc_Mo_readClause_81 rfl ?_
                      refine va_get (ci := 10) (v := .int (nI mrd)) (C := rn_Mo) (T := fd_Mo) (N := 36) hx hb hts in_Mo hown hK hP 0 rfl rfl 7 (by decide) (hts _ wd_753) (fun _ h9 => h9) rfl dc_Mo_readClause_82 ?_
                      refine lv_iconst (v := nI 1) hx hb dc_Mo_readClause_85 (by decide +kernel) ?_
                      refine kn_iadd hx hb dc_Mo_readClause_86 ?_
                      refine va_put (ci := 10) (v := .int (nI (mrd + 1))) (ty := .int) (C := rn_Mo) (T := fd_Mo) (N := 36) hx hb hts in_Mo ty_Mo tk_Mo nm_Mo hown hK hP hD hS 0 rfl rfl 7 (by decide) (hts _ wd_753) (fun _ h9 => h9) rfl (by decide +kernel) rfl rfl (Nat.le_of_ble_eq_true rfl) dc_Mo_readClause_87 (fun H locs hP hD hS => ?_)
                      have hP : va_P D kc_l [mo_c o mth mty x0 (pt_zz t mty q1) (pt_ws t mty q1) (pt_zz t mty q1) false (mrd + 1) x1 x2 x3 mhf mhp mcl mck mba mct x4 x5 x6 x7 x8 mst x9 x10 x11 x12 mtr mrs x13 x14 x15 x16 mwr x17 mfo, ar_n cI x0 250 t, ar_n cI x1 16 rz1, ar_i cI x2 128 rl1, ar_b cZ x3 16 (va_up rd mrd d)] H := hP
                      have hD : va_D A [mo_c o mth mty x0 (pt_zz t mty q1) (pt_ws t mty q1) (pt_zz t mty q1) false (mrd + 1) x1 x2 x3 mhf mhp mcl mck mba mct x4 x5 x6 x7 x8 mst x9 x10 x11 x12 mtr mrs x13 x14 x15 x16 mwr x17 mfo, ar_n cI x0 250 t, ar_n cI x1 16 rz1, ar_i cI x2 128 rl1, ar_b cZ x3 16 (va_up rd mrd d)] := hD
                      exact ke_vret (x := ⟨(pt_zz t mty q1, pt_ws t mty q1, pt_zz t mty q1, rz1, rl1), fun q9 => absurd q9 (by rw [hZf]; decide)⟩) hx hb hr hlocks hP hD hS dc_Mo_readClause_90 (by dsimp only; rw [hZf])
                    · exact absurd hc25 (by decide)
                  · exact absurd hc65 (by decide)
                · exact absurd hc43 (by decide)
              · obtain ⟨hb16, rfl⟩ := lof_some hlo
                by_cases hbig : v < b % 8 + 1
                · have hZf : (pt_rc t mty v (mrd + 1) 9 q (va_up fz (mrd + 1) 0) (va_up fs (mrd + 1) 0) fl).1 = false := by rw [← h1, rc_bad hk8 (iv_s hx1) hc29 hlo (Or.inl hbig)]
                  refine lv_aload_n hx hb dc_Mo_readClause_32 rfl (lv_at hl 1 rfl) ?_
                  refine lv_iload_n hx hb dc_Mo_readClause_33 rfl (lv_at hl 0 rfl) ?_
                  refine lv_iload_n hx hb dc_Mo_readClause_34 rfl (lv_at hl 2 rfl) ?_
                  refine kw_call0 (wr := [ar_n cI x0 250 t, ar_b cZ x3 16 (va_up rd mrd d)]) (ws' := [mo_c o mth mty x0 (pt_zz t mty q1) (pt_ws t mty q1) (pt_zz t mty q1) false mrd x1 x2 x3 mhf mhp mcl mck mba mct x4 x5 x6 x7 x8 mst x9 x10 x11 x12 mtr mrs x13 x14 x15 x16 mwr x17 mfo, ar_n cI x0 250 t, ar_n cI x1 16 rz1, ar_i cI x2 128 rl1, ar_b cZ x3 16 (va_up rd mrd d)]) (va_runV (As := [.int (pt_lit b), .int (nI v)]) (rest := []) ⟨hx, hb, hml, hown, hts⟩ (ct_Mo_take_big l D cI cZ _ o mth mty x0 (pt_zz t mty q1) (pt_ws t mty q1) (pt_zz t mty q1) true mrd x1 x2 x3 mhf mhp mcl mck mba mct x4 x5 x6 x7 x8 mst x9 x10 x11 x12 mtr mrs x13 x14 x15 x16 mwr x17 mfo rz1 rl1 b v (rfl) (hrd) (hb16) (hv8) (hbig) (by rw [hk1.1]; exact hk8)) (cwV 2 hts (kx_gV wd_899 wd_901 (kx_sel (q := (yn_Mo_take, 36)) (List.mem_append_right _ (List.mem_append_left _ (List.mem_of_getElem? (i := 2) rfl)))) wd_9 wd_902) rfl rfl rfl ⟨rfl, yd_Mo_take⟩ ⟨Nat.le_of_ble_eq_true rfl, Nat.le_of_ble_eq_true rfl⟩) (kp_V (q0 := 0) (ci := 10) hP hD hK hN [0, 2, 3] rfl rfl rfl rfl rfl) rfl rfl hl.1 rfl (lv_room (Nat.le_of_ble_eq_true rfl)) dc_Mo_readClause_35 ⟨Nat.le_of_ble_eq_true rfl, Nat.le_of_ble_eq_true rfl⟩) hP hD hS hA [0, 2, 3] [1, 4] [2, 0, 3, 4, 1] rfl rfl rfl (by decide) rfl rfl (fun H locs hP hD hS => ?_)
                  refine lv_aload_n hx hb dc_Mo_readClause_38 rfl (lv_at hl 1 rfl) ?_
                  refine lv_aload_n hx hb dc_Mo_readClause_39 rfl (lv_at hl 1 rfl) ?_
                  refine va_get (ci := 10) (v := .int (kb_i false)) (C := rn_Mo) (T := fd_Mo) (N := 36) hx hb hts in_Mo hown hK hP 0 rfl rfl 6 (by decide) (hts _ wd_752) (fun _ h9 => h9) rfl dc_Mo_readClause_40 ?_
                  refine kb_if_eq hx hb dc_Mo_readClause_43 rfl (fun hc43 => ?_) (fun hc43 => ?_)
                  · refine lv_iconst (v := nI 0) hx hb dc_Mo_readClause_57 (by decide +kernel) ?_
                    refine kn_top (y := kb_i false) (by decide +kernel) ?_
                    refine va_put (ci := 10) (v := .int (kb_i false)) (ty := .boolean) (C := rn_Mo) (T := fd_Mo) (N := 36) hx hb hts in_Mo ty_Mo tk_Mo nm_Mo hown hK hP hD hS 0 rfl rfl 6 (by decide) (hts _ wd_752) (fun _ h9 => h9) rfl (by decide +kernel) (kb_nar _) (kb_fit _) (Nat.le_of_ble_eq_true rfl) dc_Mo_readClause_58 (fun H locs hP hD hS => ?_)
                    have hP : va_P D kc_l [mo_c o mth mty x0 (pt_zz t mty q1) (pt_ws t mty q1) (pt_zz t mty q1) false mrd x1 x2 x3 mhf mhp mcl mck mba mct x4 x5 x6 x7 x8 mst x9 x10 x11 x12 mtr mrs x13 x14 x15 x16 mwr x17 mfo, ar_n cI x0 250 t, ar_n cI x1 16 rz1, ar_i cI x2 128 rl1, ar_b cZ x3 16 (va_up rd mrd d)] H := hP
                    have hD : va_D A [mo_c o mth mty x0 (pt_zz t mty q1) (pt_ws t mty q1) (pt_zz t mty q1) false mrd x1 x2 x3 mhf mhp mcl mck mba mct x4 x5 x6 x7 x8 mst x9 x10 x11 x12 mtr mrs x13 x14 x15 x16 mwr x17 mfo, ar_n cI x0 250 t, ar_n cI x1 16 rz1, ar_i cI x2 128 rl1, ar_b cZ x3 16 (va_up rd mrd d)] := hD
                    refine lv_aload_n hx hb dc_Mo_readClause_61 rfl (lv_at hl 1 rfl) ?_
                    refine va_get (ci := 10) (v := .int (kb_i false)) (C := rn_Mo) (T := fd_Mo) (N := 36) hx hb hts in_Mo hown hK hP 0 rfl rfl 6 (by decide) (hts _ wd_752) (fun _ h9 => h9) rfl dc_Mo_readClause_62 ?_
                    refine kb_if_eq hx hb dc_Mo_readClause_65 rfl (fun hc65 => ?_) (fun hc65 => ?_)
                    · refine lv_iconst (v := nI 0) hx hb dc_Mo_readClause_75 (by decide +kernel) ?_
                      refine lv_istore_n (lv' := [(3, .int (nI 0)), (0, .ref o), (1, .int (nI v)), (2, .int (kb_i d))]) hx hb dc_Mo_readClause_76 rfl hl (by decide) rfl (fun ls hl => ?_)
                      refine lv_goto hx hb dc_Mo_readClause_77 rfl ?_
                      refine lv_aload_n hx hb dc_Mo_readClause_21 rfl (lv_at hl 1 rfl) ?_
                      refine va_get (ci := 10) (v := .int (kb_i false)) (C := rn_Mo) (T := fd_Mo) (N := 36) hx hb hts in_Mo hown hK hP 0 rfl rfl 6 (by decide) (hts _ wd_752) (fun _ h9 => h9) rfl dc_Mo_readClause_22 ?_
                      refine kb_if_eq hx hb dc_Mo_readClause_25 rfl (fun hc25 => ?_) (fun hc25 => ?_)
                      · refine lv_aload_n hx hb dc_Mo_readClause_80 rfl (lv_at hl 1 rfl) ?_
                        refine lv_dup hx hb dc_Mo_readClause_81 rfl ?_
                        refine va_get (ci := 10) (v := .int (nI mrd)) (C := rn_Mo) (T := fd_Mo) (N := 36) hx hb hts in_Mo hown hK hP 0 rfl rfl 7 (by decide) (hts _ wd_753) (fun _ h9 => h9) rfl dc_Mo_readClause_82 ?_
                        refine lv_iconst (v := nI 1) hx hb dc_Mo_readClause_85 (by decide +kernel) ?_
                        refine kn_iadd hx hb dc_Mo_readClause_86 ?_
                        refine va_put (ci := 10) (v := .int (nI (mrd + 1))) (ty := .int) (C := rn_Mo) (T := fd_Mo) (N := 36) hx hb hts in_Mo ty_Mo tk_Mo nm_Mo hown hK hP hD hS 0 rfl rfl 7 (by decide) (hts _ wd_753) (fun _ h9 => h9) rfl (by decide +kernel) rfl rfl (Nat.le_of_ble_eq_true rfl) dc_Mo_readClause_87 (fun H locs hP hD hS => ?_)
                        have hP : va_P D kc_l [mo_c o mth mty x0 (pt_zz t mty q1) (pt_ws t mty q1) (pt_zz t mty q1) false (mrd + 1) x1 x2 x3 mhf mhp mcl mck mba mct x4 x5 x6 x7 x8 mst x9 x10 x11 x12 mtr mrs x13 x14 x15 x16 mwr x17 mfo, ar_n cI x0 250 t, ar_n cI x1 16 rz1, ar_i cI x2 128 rl1, ar_b cZ x3 16 (va_up rd mrd d)] H := hP
                        have hD : va_D A [mo_c o mth mty x0 (pt_zz t mty q1) (pt_ws t mty q1) (pt_zz t mty q1) false (mrd + 1) x1 x2 x3 mhf mhp mcl mck mba mct x4 x5 x6 x7 x8 mst x9 x10 x11 x12 mtr mrs x13 x14 x15 x16 mwr x17 mfo, ar_n cI x0 250 t, ar_n cI x1 16 rz1, ar_i cI x2 128 rl1, ar_b cZ x3 16 (va_up rd mrd d)] := hD
                        exact ke_vret (x := ⟨(pt_zz t mty q1, pt_ws t mty q1, pt_zz t mty q1, rz1, rl1), fun q9 => absurd q9 (by rw [hZf]; decide)⟩) hx hb hr hlocks hP hD hS dc_Mo_readClause_90 (by dsimp only; rw [hZf])
                      · exact absurd hc25 (by decide)
                    · exact absurd hc65 (by decide)
                  · exact absurd hc43 (by decide)
                · by_cases hfr : ¬ fs1 (mrd + 1) &&& (2 ^ (b % 8) ||| 2 ^ (b % 8 + 8)) = 0
                  · have hZf : (pt_rc t mty v (mrd + 1) 9 q (va_up fz (mrd + 1) 0) (va_up fs (mrd + 1) 0) fl).1 = false := by rw [← h1, rc_bad hk8 (iv_s hx1) hc29 hlo (Or.inr hfr)]
                    refine lv_aload_n hx hb dc_Mo_readClause_32 rfl (lv_at hl 1 rfl) ?_
                    refine lv_iload_n hx hb dc_Mo_readClause_33 rfl (lv_at hl 0 rfl) ?_
                    refine lv_iload_n hx hb dc_Mo_readClause_34 rfl (lv_at hl 2 rfl) ?_
                    refine kw_call0 (wr := [ar_n cI x0 250 t, ar_b cZ x3 16 (va_up rd mrd d)]) (ws' := [mo_c o mth mty x0 (pt_zz t mty q1) (pt_ws t mty q1) (pt_zz t mty q1) false mrd x1 x2 x3 mhf mhp mcl mck mba mct x4 x5 x6 x7 x8 mst x9 x10 x11 x12 mtr mrs x13 x14 x15 x16 mwr x17 mfo, ar_n cI x0 250 t, ar_n cI x1 16 rz1, ar_i cI x2 128 rl1, ar_b cZ x3 16 (va_up rd mrd d)]) (va_runV (As := [.int (pt_lit b), .int (nI v)]) (rest := []) ⟨hx, hb, hml, hown, hts⟩ (ct_Mo_take_dup l D cI cZ _ o mth mty x0 (pt_zz t mty q1) (pt_ws t mty q1) (pt_zz t mty q1) true mrd x1 x2 x3 mhf mhp mcl mck mba mct x4 x5 x6 x7 x8 mst x9 x10 x11 x12 mtr mrs x13 x14 x15 x16 mwr x17 mfo rz1 rl1 b v bb pm (fs1 (mrd + 1)) (rfl) (hrd) (hb16) (hv8) (by omega) (by rw [hk1.1]; exact hk8) (by rw [hk1.1]; exact hrow) (hfr)) (cwV 2 hts (kx_gV wd_899 wd_901 (kx_sel (q := (yn_Mo_take, 36)) (List.mem_append_right _ (List.mem_append_left _ (List.mem_of_getElem? (i := 2) rfl)))) wd_9 wd_902) rfl rfl rfl ⟨rfl, yd_Mo_take⟩ ⟨Nat.le_of_ble_eq_true rfl, Nat.le_of_ble_eq_true rfl⟩) (kp_V (q0 := 0) (ci := 10) hP hD hK hN [0, 2, 3] rfl rfl rfl rfl rfl) rfl rfl hl.1 rfl (lv_room (Nat.le_of_ble_eq_true rfl)) dc_Mo_readClause_35 ⟨Nat.le_of_ble_eq_true rfl, Nat.le_of_ble_eq_true rfl⟩) hP hD hS hA [0, 2, 3] [1, 4] [2, 0, 3, 4, 1] rfl rfl rfl (by decide) rfl rfl (fun H locs hP hD hS => ?_)
                    refine lv_aload_n hx hb dc_Mo_readClause_38 rfl (lv_at hl 1 rfl) ?_
                    refine lv_aload_n hx hb dc_Mo_readClause_39 rfl (lv_at hl 1 rfl) ?_
                    refine va_get (ci := 10) (v := .int (kb_i false)) (C := rn_Mo) (T := fd_Mo) (N := 36) hx hb hts in_Mo hown hK hP 0 rfl rfl 6 (by decide) (hts _ wd_752) (fun _ h9 => h9) rfl dc_Mo_readClause_40 ?_
                    refine kb_if_eq hx hb dc_Mo_readClause_43 rfl (fun hc43 => ?_) (fun hc43 => ?_)
                    · refine lv_iconst (v := nI 0) hx hb dc_Mo_readClause_57 (by decide +kernel) ?_
                      refine kn_top (y := kb_i false) (by decide +kernel) ?_
                      refine va_put (ci := 10) (v := .int (kb_i false)) (ty := .boolean) (C := rn_Mo) (T := fd_Mo) (N := 36) hx hb hts in_Mo ty_Mo tk_Mo nm_Mo hown hK hP hD hS 0 rfl rfl 6 (by decide) (hts _ wd_752) (fun _ h9 => h9) rfl (by decide +kernel) (kb_nar _) (kb_fit _) (Nat.le_of_ble_eq_true rfl) dc_Mo_readClause_58 (fun H locs hP hD hS => ?_)
                      have hP : va_P D kc_l [mo_c o mth mty x0 (pt_zz t mty q1) (pt_ws t mty q1) (pt_zz t mty q1) false mrd x1 x2 x3 mhf mhp mcl mck mba mct x4 x5 x6 x7 x8 mst x9 x10 x11 x12 mtr mrs x13 x14 x15 x16 mwr x17 mfo, ar_n cI x0 250 t, ar_n cI x1 16 rz1, ar_i cI x2 128 rl1, ar_b cZ x3 16 (va_up rd mrd d)] H := hP
                      have hD : va_D A [mo_c o mth mty x0 (pt_zz t mty q1) (pt_ws t mty q1) (pt_zz t mty q1) false mrd x1 x2 x3 mhf mhp mcl mck mba mct x4 x5 x6 x7 x8 mst x9 x10 x11 x12 mtr mrs x13 x14 x15 x16 mwr x17 mfo, ar_n cI x0 250 t, ar_n cI x1 16 rz1, ar_i cI x2 128 rl1, ar_b cZ x3 16 (va_up rd mrd d)] := hD
                      refine lv_aload_n hx hb dc_Mo_readClause_61 rfl (lv_at hl 1 rfl) ?_
                      refine va_get (ci := 10) (v := .int (kb_i false)) (C := rn_Mo) (T := fd_Mo) (N := 36) hx hb hts in_Mo hown hK hP 0 rfl rfl 6 (by decide) (hts _ wd_752) (fun _ h9 => h9) rfl dc_Mo_readClause_62 ?_
                      refine kb_if_eq hx hb dc_Mo_readClause_65 rfl (fun hc65 => ?_) (fun hc65 => ?_)
                      · refine lv_iconst (v := nI 0) hx hb dc_Mo_readClause_75 (by decide +kernel) ?_
                        refine lv_istore_n (lv' := [(3, .int (nI 0)), (0, .ref o), (1, .int (nI v)), (2, .int (kb_i d))]) hx hb dc_Mo_readClause_76 rfl hl (by decide) rfl (fun ls hl => ?_)
                        refine lv_goto hx hb dc_Mo_readClause_77 rfl ?_
                        refine lv_aload_n hx hb dc_Mo_readClause_21 rfl (lv_at hl 1 rfl) ?_
                        refine va_get (ci := 10) (v := .int (kb_i false)) (C := rn_Mo) (T := fd_Mo) (N := 36) hx hb hts in_Mo hown hK hP 0 rfl rfl 6 (by decide) (hts _ wd_752) (fun _ h9 => h9) rfl dc_Mo_readClause_22 ?_
                        refine kb_if_eq hx hb dc_Mo_readClause_25 rfl (fun hc25 => ?_) (fun hc25 => ?_)
                        · refine lv_aload_n hx hb dc_Mo_readClause_80 rfl (lv_at hl 1 rfl) ?_
                          refine lv_dup hx hb dc_Mo_readClause_81 rfl ?_
                          refine va_get (ci := 10) (v := .int (nI mrd)) (C := rn_Mo) (T := fd_Mo) (N := 36) hx hb hts in_Mo hown hK hP 0 rfl rfl 7 (by decide) (hts _ wd_753) (fun _ h9 => h9) rfl dc_Mo_readClause_82 ?_
                          refine lv_iconst (v := nI 1) hx hb dc_Mo_readClause_85 (by decide +kernel) ?_
                          refine kn_iadd hx hb dc_Mo_readClause_86 ?_
                          refine va_put (ci := 10) (v := .int (nI (mrd + 1))) (ty := .int) (C := rn_Mo) (T := fd_Mo) (N := 36) hx hb hts in_Mo ty_Mo tk_Mo nm_Mo hown hK hP hD hS 0 rfl rfl 7 (by decide) (hts _ wd_753) (fun _ h9 => h9) rfl (by decide +kernel) rfl rfl (Nat.le_of_ble_eq_true rfl) dc_Mo_readClause_87 (fun H locs hP hD hS => ?_)
                          have hP : va_P D kc_l [mo_c o mth mty x0 (pt_zz t mty q1) (pt_ws t mty q1) (pt_zz t mty q1) false (mrd + 1) x1 x2 x3 mhf mhp mcl mck mba mct x4 x5 x6 x7 x8 mst x9 x10 x11 x12 mtr mrs x13 x14 x15 x16 mwr x17 mfo, ar_n cI x0 250 t, ar_n cI x1 16 rz1, ar_i cI x2 128 rl1, ar_b cZ x3 16 (va_up rd mrd d)] H := hP
                          have hD : va_D A [mo_c o mth mty x0 (pt_zz t mty q1) (pt_ws t mty q1) (pt_zz t mty q1) false (mrd + 1) x1 x2 x3 mhf mhp mcl mck mba mct x4 x5 x6 x7 x8 mst x9 x10 x11 x12 mtr mrs x13 x14 x15 x16 mwr x17 mfo, ar_n cI x0 250 t, ar_n cI x1 16 rz1, ar_i cI x2 128 rl1, ar_b cZ x3 16 (va_up rd mrd d)] := hD
                          exact ke_vret (x := ⟨(pt_zz t mty q1, pt_ws t mty q1, pt_zz t mty q1, rz1, rl1), fun q9 => absurd q9 (by rw [hZf]; decide)⟩) hx hb hr hlocks hP hD hS dc_Mo_readClause_90 (by dsimp only; rw [hZf])
                        · exact absurd hc25 (by decide)
                      · exact absurd hc65 (by decide)
                    · exact absurd hc43 (by decide)
                  · have hfr := Classical.not_not.mp hfr
                    have hw8 : k < 8 := by
                      have hf := rm_step (w := k) (x := fs1 (mrd + 1)) (row_rm hrow hs16) hb16 hfr
                      exact hf.1
                    have hrow2 := row_app hrow hb16 hfr hw8 hs16
                    have hgo : (pt_rc t mty v (mrd + 1) 9 q (va_up fz (mrd + 1) 0) (va_up fs (mrd + 1) 0) fl) = pt_rc t mty v (mrd + 1) (9 - (k + 1)) (pt_zz t mty q1) (va_up fz1 (mrd + 1) (k + 1)) (va_up fs1 (mrd + 1) (fs1 (mrd + 1) ||| 2 ^ b)) (upd fl1 ((mrd + 1) * 8 + k) (pt_lit b)) := by rw [← h1, rc_go hk8 (iv_s hx1) hc29 hlo (fun q9 => q9.elim (fun q8 => by omega) (fun q8 => q8 hfr)), hk1.2]
                    refine lv_aload_n hx hb dc_Mo_readClause_32 rfl (lv_at hl 1 rfl) ?_
                    refine lv_iload_n hx hb dc_Mo_readClause_33 rfl (lv_at hl 0 rfl) ?_
                    refine lv_iload_n hx hb dc_Mo_readClause_34 rfl (lv_at hl 2 rfl) ?_
                    refine kw_call0 (wr := [ar_n cI x0 250 t, ar_b cZ x3 16 (va_up rd mrd d)]) (ws' := [mo_c o mth mty x0 (pt_zz t mty q1) (pt_ws t mty q1) (pt_zz t mty q1) true mrd x1 x2 x3 mhf mhp mcl mck mba mct x4 x5 x6 x7 x8 mst x9 x10 x11 x12 mtr mrs x13 x14 x15 x16 mwr x17 mfo, ar_n cI x0 250 t, ar_n cI x1 16 (va_up rz1 mrd (rz1 mrd + 1)), ar_i cI x2 128 (upd rl1 (8 * mrd + rz1 mrd) (pt_lit b)), ar_b cZ x3 16 (va_up rd mrd d)]) (va_runV (As := [.int (pt_lit b), .int (nI v)]) (rest := []) ⟨hx, hb, hml, hown, hts⟩ (ct_Mo_take l D cI cZ _ o mth mty x0 (pt_zz t mty q1) (pt_ws t mty q1) (pt_zz t mty q1) true mrd x1 x2 x3 mhf mhp mcl mck mba mct x4 x5 x6 x7 x8 mst x9 x10 x11 x12 mtr mrs x13 x14 x15 x16 mwr x17 mfo rz1 rl1 b v bb pm (fs1 (mrd + 1)) (rfl) (hrd) (hb16) (hv8) (by omega) (by rw [hk1.1]; exact hw8) (by rw [hk1.1]; exact hrow) (hfr)) (cwV 2 hts (kx_gV wd_899 wd_901 (kx_sel (q := (yn_Mo_take, 36)) (List.mem_append_right _ (List.mem_append_left _ (List.mem_of_getElem? (i := 2) rfl)))) wd_9 wd_902) rfl rfl rfl ⟨rfl, yd_Mo_take⟩ ⟨Nat.le_of_ble_eq_true rfl, Nat.le_of_ble_eq_true rfl⟩) (kp_V (q0 := 0) (ci := 10) hP hD hK hN [0, 2, 3] rfl rfl rfl rfl rfl) rfl rfl hl.1 rfl (lv_room (Nat.le_of_ble_eq_true rfl)) dc_Mo_readClause_35 ⟨Nat.le_of_ble_eq_true rfl, Nat.le_of_ble_eq_true rfl⟩) hP hD hS hA [0, 2, 3] [1, 4] [2, 0, 3, 4, 1] rfl rfl rfl (by decide) rfl rfl (fun H locs hP hD hS => ?_)
                    have e2 : va_up rz1 mrd (rz1 mrd + 1) = va_up rz1 mrd (k + 1) := by rw [hk1.1]
                    have e3 : upd rl1 (8 * mrd + rz1 mrd) (pt_lit b) = upd rl1 (8 * mrd + k) (pt_lit b) := by rw [hk1.1]
                    rw [e2, e3] at hP hD
                    refine lv_aload_n hx hb dc_Mo_readClause_38 rfl (lv_at hl 1 rfl) ?_
                    refine lv_aload_n hx hb dc_Mo_readClause_39 rfl (lv_at hl 1 rfl) ?_
                    refine va_get (ci := 10) (v := .int (kb_i true)) (C := rn_Mo) (T := fd_Mo) (N := 36) hx hb hts in_Mo hown hK hP 0 rfl rfl 6 (by decide) (hts _ wd_752) (fun _ h9 => h9) rfl dc_Mo_readClause_40 ?_
                    refine kb_if_eq hx hb dc_Mo_readClause_43 rfl (fun hc43 => ?_) (fun hc43 => ?_)
                    · exact absurd hc43 (by decide)
                    · refine lv_aload_n hx hb dc_Mo_readClause_46 rfl (lv_at hl 1 rfl) ?_
                      refine kw_call1 (wr := [ar_n cI x1 16 (va_up rz1 mrd (k + 1)), ar_i cI x2 128 (upd rl1 (8 * mrd + k) (pt_lit b)), ar_b cZ x3 16 (va_up rd mrd d)]) (ws' := [mo_c o mth mty x0 (pt_zz t mty (pt_zz t mty q1)) (pt_ws t mty (pt_zz t mty q1)) (pt_zz t mty (pt_zz t mty q1)) true mrd x1 x2 x3 mhf mhp mcl mck mba mct x4 x5 x6 x7 x8 mst x9 x10 x11 x12 mtr mrs x13 x14 x15 x16 mwr x17 mfo, ar_n cI x0 250 t, ar_n cI x1 16 (va_up rz1 mrd (k + 1)), ar_i cI x2 128 (upd rl1 (8 * mrd + k) (pt_lit b)), ar_b cZ x3 16 (va_up rd mrd d)]) (va_runV (As := []) (rest := [.ref o]) ⟨hx, hb, hml, hown, hts⟩ (ct_Mo_word l D cI cZ _ o mth mty x0 (pt_zz t mty q1) (pt_ws t mty q1) (pt_zz t mty q1) true mrd x1 x2 x3 mhf mhp mcl mck mba mct x4 x5 x6 x7 x8 mst x9 x10 x11 x12 mtr mrs x13 x14 x15 x16 mwr x17 mfo t (hty) (zz_le h4) (ht)) (cwV 0 hts (kx_gV wd_876 wd_878 (kx_sel (q := (yn_Mo_word, 36)) (List.mem_append_left _ (List.mem_of_getElem? (i := 13) rfl))) wd_9 wd_879) rfl rfl rfl ⟨rfl, yd_Mo_word⟩ ⟨Nat.le_of_ble_eq_true rfl, Nat.le_of_ble_eq_true rfl⟩) (kp_V (q0 := 0) (ci := 10) hP hD hK hN [0, 1] rfl rfl rfl rfl rfl) rfl rfl hl.1 rfl (lv_room (Nat.le_of_ble_eq_true rfl)) dc_Mo_readClause_47 ⟨Nat.le_of_ble_eq_true rfl, Nat.le_of_ble_eq_true rfl⟩) hP hD hS hA [0, 1] [2, 3, 4] [3, 4, 0, 1, 2] rfl rfl rfl (by decide) rfl rfl (fun H locs hP hD hS => ?_)
                      refine kb_if_eq hx hb dc_Mo_readClause_50 rfl (fun hc50 => ?_) (fun hc50 => ?_)
                      · have hwd := of_decide_eq_false hc50
                        have hZf : (pt_rc t mty v (mrd + 1) 9 q (va_up fz (mrd + 1) 0) (va_up fs (mrd + 1) 0) fl).1 = false := by rw [hgo, rc_none (by omega) (pi_e hwd)]
                        refine lv_iconst (v := nI 0) hx hb dc_Mo_readClause_57 (by decide +kernel) ?_
                        refine kn_top (y := kb_i false) (by decide +kernel) ?_
                        refine va_put (ci := 10) (v := .int (kb_i false)) (ty := .boolean) (C := rn_Mo) (T := fd_Mo) (N := 36) hx hb hts in_Mo ty_Mo tk_Mo nm_Mo hown hK hP hD hS 0 rfl rfl 6 (by decide) (hts _ wd_752) (fun _ h9 => h9) rfl (by decide +kernel) (kb_nar _) (kb_fit _) (Nat.le_of_ble_eq_true rfl) dc_Mo_readClause_58 (fun H locs hP hD hS => ?_)
                        have hP : va_P D kc_l [mo_c o mth mty x0 (pt_zz t mty (pt_zz t mty q1)) (pt_ws t mty (pt_zz t mty q1)) (pt_zz t mty (pt_zz t mty q1)) false mrd x1 x2 x3 mhf mhp mcl mck mba mct x4 x5 x6 x7 x8 mst x9 x10 x11 x12 mtr mrs x13 x14 x15 x16 mwr x17 mfo, ar_n cI x0 250 t, ar_n cI x1 16 (va_up rz1 mrd (k + 1)), ar_i cI x2 128 (upd rl1 (8 * mrd + k) (pt_lit b)), ar_b cZ x3 16 (va_up rd mrd d)] H := hP
                        have hD : va_D A [mo_c o mth mty x0 (pt_zz t mty (pt_zz t mty q1)) (pt_ws t mty (pt_zz t mty q1)) (pt_zz t mty (pt_zz t mty q1)) false mrd x1 x2 x3 mhf mhp mcl mck mba mct x4 x5 x6 x7 x8 mst x9 x10 x11 x12 mtr mrs x13 x14 x15 x16 mwr x17 mfo, ar_n cI x0 250 t, ar_n cI x1 16 (va_up rz1 mrd (k + 1)), ar_i cI x2 128 (upd rl1 (8 * mrd + k) (pt_lit b)), ar_b cZ x3 16 (va_up rd mrd d)] := hD
                        refine lv_aload_n hx hb dc_Mo_readClause_61 rfl (lv_at hl 1 rfl) ?_
                        refine va_get (ci := 10) (v := .int (kb_i false)) (C := rn_Mo) (T := fd_Mo) (N := 36) hx hb hts in_Mo hown hK hP 0 rfl rfl 6 (by decide) (hts _ wd_752) (fun _ h9 => h9) rfl dc_Mo_readClause_62 ?_
                        refine kb_if_eq hx hb dc_Mo_readClause_65 rfl (fun hc65 => ?_) (fun hc65 => ?_)
                        · refine lv_iconst (v := nI 0) hx hb dc_Mo_readClause_75 (by decide +kernel) ?_
                          refine lv_istore_n (lv' := [(3, .int (nI 0)), (0, .ref o), (1, .int (nI v)), (2, .int (kb_i d))]) hx hb dc_Mo_readClause_76 rfl hl (by decide) rfl (fun ls hl => ?_)
                          refine lv_goto hx hb dc_Mo_readClause_77 rfl ?_
                          refine lv_aload_n hx hb dc_Mo_readClause_21 rfl (lv_at hl 1 rfl) ?_
                          refine va_get (ci := 10) (v := .int (kb_i false)) (C := rn_Mo) (T := fd_Mo) (N := 36) hx hb hts in_Mo hown hK hP 0 rfl rfl 6 (by decide) (hts _ wd_752) (fun _ h9 => h9) rfl dc_Mo_readClause_22 ?_
                          refine kb_if_eq hx hb dc_Mo_readClause_25 rfl (fun hc25 => ?_) (fun hc25 => ?_)
                          · refine lv_aload_n hx hb dc_Mo_readClause_80 rfl (lv_at hl 1 rfl) ?_
                            refine lv_dup hx hb dc_Mo_readClause_81 rfl ?_
                            refine va_get (ci := 10) (v := .int (nI mrd)) (C := rn_Mo) (T := fd_Mo) (N := 36) hx hb hts in_Mo hown hK hP 0 rfl rfl 7 (by decide) (hts _ wd_753) (fun _ h9 => h9) rfl dc_Mo_readClause_82 ?_
                            refine lv_iconst (v := nI 1) hx hb dc_Mo_readClause_85 (by decide +kernel) ?_
                            refine kn_iadd hx hb dc_Mo_readClause_86 ?_
                            refine va_put (ci := 10) (v := .int (nI (mrd + 1))) (ty := .int) (C := rn_Mo) (T := fd_Mo) (N := 36) hx hb hts in_Mo ty_Mo tk_Mo nm_Mo hown hK hP hD hS 0 rfl rfl 7 (by decide) (hts _ wd_753) (fun _ h9 => h9) rfl (by decide +kernel) rfl rfl (Nat.le_of_ble_eq_true rfl) dc_Mo_readClause_87 (fun H locs hP hD hS => ?_)
                            have hP : va_P D kc_l [mo_c o mth mty x0 (pt_zz t mty (pt_zz t mty q1)) (pt_ws t mty (pt_zz t mty q1)) (pt_zz t mty (pt_zz t mty q1)) false (mrd + 1) x1 x2 x3 mhf mhp mcl mck mba mct x4 x5 x6 x7 x8 mst x9 x10 x11 x12 mtr mrs x13 x14 x15 x16 mwr x17 mfo, ar_n cI x0 250 t, ar_n cI x1 16 (va_up rz1 mrd (k + 1)), ar_i cI x2 128 (upd rl1 (8 * mrd + k) (pt_lit b)), ar_b cZ x3 16 (va_up rd mrd d)] H := hP
                            have hD : va_D A [mo_c o mth mty x0 (pt_zz t mty (pt_zz t mty q1)) (pt_ws t mty (pt_zz t mty q1)) (pt_zz t mty (pt_zz t mty q1)) false (mrd + 1) x1 x2 x3 mhf mhp mcl mck mba mct x4 x5 x6 x7 x8 mst x9 x10 x11 x12 mtr mrs x13 x14 x15 x16 mwr x17 mfo, ar_n cI x0 250 t, ar_n cI x1 16 (va_up rz1 mrd (k + 1)), ar_i cI x2 128 (upd rl1 (8 * mrd + k) (pt_lit b)), ar_b cZ x3 16 (va_up rd mrd d)] := hD
                            exact ke_vret (x := ⟨(pt_zz t mty (pt_zz t mty q1), pt_ws t mty (pt_zz t mty q1), pt_zz t mty (pt_zz t mty q1), va_up rz1 mrd (k + 1), upd rl1 (8 * mrd + k) (pt_lit b)), fun q9 => absurd q9 (by rw [hZf]; decide)⟩) hx hb hr hlocks hP hD hS dc_Mo_readClause_90 (by dsimp only; rw [hZf])
                          · exact absurd hc25 (by decide)
                        · exact absurd hc65 (by decide)
                      · have hwd := of_decide_eq_true hc50
                        refine lv_iconst (v := nI 1) hx hb dc_Mo_readClause_53 (by decide +kernel) ?_
                        refine lv_goto hx hb dc_Mo_readClause_54 rfl ?_
                        refine kn_top (y := kb_i true) (by decide +kernel) ?_
                        refine va_put (ci := 10) (v := .int (kb_i true)) (ty := .boolean) (C := rn_Mo) (T := fd_Mo) (N := 36) hx hb hts in_Mo ty_Mo tk_Mo nm_Mo hown hK hP hD hS 0 rfl rfl 6 (by decide) (hts _ wd_752) (fun _ h9 => h9) rfl (by decide +kernel) (kb_nar _) (kb_fit _) (Nat.le_of_ble_eq_true rfl) dc_Mo_readClause_58 (fun H locs hP hD hS => ?_)
                        have hP : va_P D kc_l [mo_c o mth mty x0 (pt_zz t mty (pt_zz t mty q1)) (pt_ws t mty (pt_zz t mty q1)) (pt_zz t mty (pt_zz t mty q1)) true mrd x1 x2 x3 mhf mhp mcl mck mba mct x4 x5 x6 x7 x8 mst x9 x10 x11 x12 mtr mrs x13 x14 x15 x16 mwr x17 mfo, ar_n cI x0 250 t, ar_n cI x1 16 (va_up rz1 mrd (k + 1)), ar_i cI x2 128 (upd rl1 (8 * mrd + k) (pt_lit b)), ar_b cZ x3 16 (va_up rd mrd d)] H := hP
                        have hD : va_D A [mo_c o mth mty x0 (pt_zz t mty (pt_zz t mty q1)) (pt_ws t mty (pt_zz t mty q1)) (pt_zz t mty (pt_zz t mty q1)) true mrd x1 x2 x3 mhf mhp mcl mck mba mct x4 x5 x6 x7 x8 mst x9 x10 x11 x12 mtr mrs x13 x14 x15 x16 mwr x17 mfo, ar_n cI x0 250 t, ar_n cI x1 16 (va_up rz1 mrd (k + 1)), ar_i cI x2 128 (upd rl1 (8 * mrd + k) (pt_lit b)), ar_b cZ x3 16 (va_up rd mrd d)] := hD
                        refine lv_aload_n hx hb dc_Mo_readClause_61 rfl (lv_at hl 1 rfl) ?_
                        refine va_get (ci := 10) (v := .int (kb_i true)) (C := rn_Mo) (T := fd_Mo) (N := 36) hx hb hts in_Mo hown hK hP 0 rfl rfl 6 (by decide) (hts _ wd_752) (fun _ h9 => h9) rfl dc_Mo_readClause_62 ?_
                        refine kb_if_eq hx hb dc_Mo_readClause_65 rfl (fun hc65 => ?_) (fun hc65 => ?_)
                        · exact absurd hc65 (by decide)
                        · refine lv_aload_n hx hb dc_Mo_readClause_68 rfl (lv_at hl 1 rfl) ?_
                          refine kw_call1 (wr := [ar_n cI x1 16 (va_up rz1 mrd (k + 1)), ar_i cI x2 128 (upd rl1 (8 * mrd + k) (pt_lit b)), ar_b cZ x3 16 (va_up rd mrd d)]) (ws' := [mo_c o mth mty x0 (pt_zz t mty (pt_zz t mty q1)) (pt_ws t mty (pt_zz t mty q1)) (pt_zz t mty (pt_zz t mty q1)) ((pt_int t (pt_ws t mty (pt_zz t mty q1)) (pt_zz t mty (pt_zz t mty q1))).isSome) mrd x1 x2 x3 mhf mhp mcl mck mba mct x4 x5 x6 x7 x8 mst x9 x10 x11 x12 mtr mrs x13 x14 x15 x16 mwr x17 mfo, ar_n cI x0 250 t, ar_n cI x1 16 (va_up rz1 mrd (k + 1)), ar_i cI x2 128 (upd rl1 (8 * mrd + k) (pt_lit b)), ar_b cZ x3 16 (va_up rd mrd d)]) (va_runV (As := []) (rest := []) ⟨hx, hb, hml, hown, hts⟩ (ct_Mo_integer l D cI cZ _ o mth mty x0 (pt_zz t mty (pt_zz t mty q1)) (pt_ws t mty (pt_zz t mty q1)) (pt_zz t mty (pt_zz t mty q1)) true mrd x1 x2 x3 mhf mhp mcl mck mba mct x4 x5 x6 x7 x8 mst x9 x10 x11 x12 mtr mrs x13 x14 x15 x16 mwr x17 mfo t (rfl) (ws_zz _ _ _) (Nat.le_trans (zz_le (zz_le h4)) hty) (ht)) (cwV 0 hts (kx_gV wd_887 wd_889 (kx_sel (q := (yn_Mo_integer, 36)) (List.mem_append_left _ (List.mem_of_getElem? (i := 15) rfl))) wd_9 wd_890) rfl rfl rfl ⟨rfl, yd_Mo_integer⟩ ⟨Nat.le_of_ble_eq_true rfl, Nat.le_of_ble_eq_true rfl⟩) (kp_V (q0 := 0) (ci := 10) hP hD hK hN [0, 1] rfl rfl rfl rfl rfl) rfl rfl hl.1 rfl (lv_room (Nat.le_of_ble_eq_true rfl)) dc_Mo_readClause_69 ⟨Nat.le_of_ble_eq_true rfl, Nat.le_of_ble_eq_true rfl⟩) hP hD hS hA [0, 1] [2, 3, 4] [3, 4, 0, 1, 2] rfl rfl rfl (by decide) rfl rfl (fun H locs hP hD hS => ?_)
                          rcases hpi : pt_int t (pt_ws t mty (pt_zz t mty q1)) (pt_zz t mty (pt_zz t mty q1)) with _ | y2
                          · have hZf : (pt_rc t mty v (mrd + 1) 9 q (va_up fz (mrd + 1) 0) (va_up fs (mrd + 1) 0) fl).1 = false := by rw [hgo, rc_none (by omega) hpi]
                            have hP : va_P D kc_l [mo_c o mth mty x0 (pt_zz t mty (pt_zz t mty q1)) (pt_ws t mty (pt_zz t mty q1)) (pt_zz t mty (pt_zz t mty q1)) false mrd x1 x2 x3 mhf mhp mcl mck mba mct x4 x5 x6 x7 x8 mst x9 x10 x11 x12 mtr mrs x13 x14 x15 x16 mwr x17 mfo, ar_n cI x0 250 t, ar_n cI x1 16 (va_up rz1 mrd (k + 1)), ar_i cI x2 128 (upd rl1 (8 * mrd + k) (pt_lit b)), ar_b cZ x3 16 (va_up rd mrd d)] H := by rw [show (false : Bool) = (pt_int t (pt_ws t mty (pt_zz t mty q1)) (pt_zz t mty (pt_zz t mty q1))).isSome by rw [hpi]; rfl]; exact hP
                            have hD : va_D A [mo_c o mth mty x0 (pt_zz t mty (pt_zz t mty q1)) (pt_ws t mty (pt_zz t mty q1)) (pt_zz t mty (pt_zz t mty q1)) false mrd x1 x2 x3 mhf mhp mcl mck mba mct x4 x5 x6 x7 x8 mst x9 x10 x11 x12 mtr mrs x13 x14 x15 x16 mwr x17 mfo, ar_n cI x0 250 t, ar_n cI x1 16 (va_up rz1 mrd (k + 1)), ar_i cI x2 128 (upd rl1 (8 * mrd + k) (pt_lit b)), ar_b cZ x3 16 (va_up rd mrd d)] := by rw [show (false : Bool) = (pt_int t (pt_ws t mty (pt_zz t mty q1)) (pt_zz t mty (pt_zz t mty q1))).isSome by rw [hpi]; rfl]; exact hD
                            refine kn_top (y := nI 0) rfl ?_
                            refine lv_goto hx hb dc_Mo_readClause_72 rfl ?_
                            refine lv_istore_n (lv' := [(3, .int (nI 0)), (0, .ref o), (1, .int (nI v)), (2, .int (kb_i d))]) hx hb dc_Mo_readClause_76 rfl hl (by decide) rfl (fun ls hl => ?_)
                            refine lv_goto hx hb dc_Mo_readClause_77 rfl ?_
                            refine lv_aload_n hx hb dc_Mo_readClause_21 rfl (lv_at hl 1 rfl) ?_
                            refine va_get (ci := 10) (v := .int (kb_i false)) (C := rn_Mo) (T := fd_Mo) (N := 36) hx hb hts in_Mo hown hK hP 0 rfl rfl 6 (by decide) (hts _ wd_752) (fun _ h9 => h9) rfl dc_Mo_readClause_22 ?_
                            refine kb_if_eq hx hb dc_Mo_readClause_25 rfl (fun hc25 => ?_) (fun hc25 => ?_)
                            · refine lv_aload_n hx hb dc_Mo_readClause_80 rfl (lv_at hl 1 rfl) ?_
                              refine lv_dup hx hb dc_Mo_readClause_81 rfl ?_
                              refine va_get (ci := 10) (v := .int (nI mrd)) (C := rn_Mo) (T := fd_Mo) (N := 36) hx hb hts in_Mo hown hK hP 0 rfl rfl 7 (by decide) (hts _ wd_753) (fun _ h9 => h9) rfl dc_Mo_readClause_82 ?_
                              refine lv_iconst (v := nI 1) hx hb dc_Mo_readClause_85 (by decide +kernel) ?_
                              refine kn_iadd hx hb dc_Mo_readClause_86 ?_
                              refine va_put (ci := 10) (v := .int (nI (mrd + 1))) (ty := .int) (C := rn_Mo) (T := fd_Mo) (N := 36) hx hb hts in_Mo ty_Mo tk_Mo nm_Mo hown hK hP hD hS 0 rfl rfl 7 (by decide) (hts _ wd_753) (fun _ h9 => h9) rfl (by decide +kernel) rfl rfl (Nat.le_of_ble_eq_true rfl) dc_Mo_readClause_87 (fun H locs hP hD hS => ?_)
                              have hP : va_P D kc_l [mo_c o mth mty x0 (pt_zz t mty (pt_zz t mty q1)) (pt_ws t mty (pt_zz t mty q1)) (pt_zz t mty (pt_zz t mty q1)) false (mrd + 1) x1 x2 x3 mhf mhp mcl mck mba mct x4 x5 x6 x7 x8 mst x9 x10 x11 x12 mtr mrs x13 x14 x15 x16 mwr x17 mfo, ar_n cI x0 250 t, ar_n cI x1 16 (va_up rz1 mrd (k + 1)), ar_i cI x2 128 (upd rl1 (8 * mrd + k) (pt_lit b)), ar_b cZ x3 16 (va_up rd mrd d)] H := hP
                              have hD : va_D A [mo_c o mth mty x0 (pt_zz t mty (pt_zz t mty q1)) (pt_ws t mty (pt_zz t mty q1)) (pt_zz t mty (pt_zz t mty q1)) false (mrd + 1) x1 x2 x3 mhf mhp mcl mck mba mct x4 x5 x6 x7 x8 mst x9 x10 x11 x12 mtr mrs x13 x14 x15 x16 mwr x17 mfo, ar_n cI x0 250 t, ar_n cI x1 16 (va_up rz1 mrd (k + 1)), ar_i cI x2 128 (upd rl1 (8 * mrd + k) (pt_lit b)), ar_b cZ x3 16 (va_up rd mrd d)] := hD
                              exact ke_vret (x := ⟨(pt_zz t mty (pt_zz t mty q1), pt_ws t mty (pt_zz t mty q1), pt_zz t mty (pt_zz t mty q1), va_up rz1 mrd (k + 1), upd rl1 (8 * mrd + k) (pt_lit b)), fun q9 => absurd q9 (by rw [hZf]; decide)⟩) hx hb hr hlocks hP hD hS dc_Mo_readClause_90 (by dsimp only; rw [hZf])
                            · exact absurd hc25 (by decide)
                          · have hP : va_P D kc_l [mo_c o mth mty x0 (pt_zz t mty (pt_zz t mty q1)) (pt_ws t mty (pt_zz t mty q1)) (pt_zz t mty (pt_zz t mty q1)) true mrd x1 x2 x3 mhf mhp mcl mck mba mct x4 x5 x6 x7 x8 mst x9 x10 x11 x12 mtr mrs x13 x14 x15 x16 mwr x17 mfo, ar_n cI x0 250 t, ar_n cI x1 16 (va_up rz1 mrd (k + 1)), ar_i cI x2 128 (upd rl1 (8 * mrd + k) (pt_lit b)), ar_b cZ x3 16 (va_up rd mrd d)] H := by rw [show (true : Bool) = (pt_int t (pt_ws t mty (pt_zz t mty q1)) (pt_zz t mty (pt_zz t mty q1))).isSome by rw [hpi]; rfl]; exact hP
                            have hD : va_D A [mo_c o mth mty x0 (pt_zz t mty (pt_zz t mty q1)) (pt_ws t mty (pt_zz t mty q1)) (pt_zz t mty (pt_zz t mty q1)) true mrd x1 x2 x3 mhf mhp mcl mck mba mct x4 x5 x6 x7 x8 mst x9 x10 x11 x12 mtr mrs x13 x14 x15 x16 mwr x17 mfo, ar_n cI x0 250 t, ar_n cI x1 16 (va_up rz1 mrd (k + 1)), ar_i cI x2 128 (upd rl1 (8 * mrd + k) (pt_lit b)), ar_b cZ x3 16 (va_up rd mrd d)] := by rw [show (true : Bool) = (pt_int t (pt_ws t mty (pt_zz t mty q1)) (pt_zz t mty (pt_zz t mty q1))).isSome by rw [hpi]; rfl]; exact hD
                            refine kn_top (y := y2) rfl ?_
                            refine lv_goto hx hb dc_Mo_readClause_72 rfl ?_
                            refine lv_istore_n (lv' := [(3, .int y2), (0, .ref o), (1, .int (nI v)), (2, .int (kb_i d))]) hx hb dc_Mo_readClause_76 rfl hl (by decide) rfl (fun ls hl => ?_)
                            refine lv_goto hx hb dc_Mo_readClause_77 rfl ?_
                            exact ih_21 _ _ _ _ _ _ _ _ _ _ _ _ _ (by omega) hP hD hS hl (hgo.symm) (hpi) (zz_le h4) (by rw [va_up_self]; exact hrow2) (⟨va_up_self _ _ _, va_up_self _ _ _⟩) (by rw [va_up_self]; exact Nat.or_lt_two_pow (n := 16) hs16 (Nat.pow_lt_pow_right (by decide) hb16)) (rel_st hr1 (by omega) (by omega)) (cur_st hcu)
      exact lp_21 _ 0 q y0 (va_up fz (mrd + 1) 0) (va_up fs (mrd + 1) 0) fl (va_up rz mrd 0) rl ((fun _ => 0)) ((fun _ => 0)) _ _ _ (Nat.lt_succ_self _) hP hD hS hl (rfl) (hpi) (hq) (by rw [va_up_self]; exact row_e) (⟨va_up_self _ _ _, va_up_self _ _ _⟩) (by rw [va_up_self]; decide) (rel_z hrel) (fun i hi => absurd hi (Nat.not_lt_zero i))

set_option maxHeartbeats 4000000 in
set_option maxRecDepth 100000 in
theorem ct_Mo_readClause_full (l : Launch) (D : va_G) (cI cZ : ClassId) (sz : Nat) (o : Nat) (mth : Nat) (mty : Nat) (x0 : Nat) (mat : Nat) (mfr : Nat) (mto : Nat) (mgd : Bool) (mrd : Nat) (x1 : Nat) (x2 : Nat) (x3 : Nat) (mhf : Bool) (mhp : Bool) (mcl : Bool) (mck : Bool) (mba : Nat) (mct : Nat) (x4 : Nat) (x5 : Nat) (x6 : Nat) (x7 : Nat) (x8 : Nat) (mst : Nat) (x9 : Nat) (x10 : Nat) (x11 : Nat) (x12 : Nat) (mtr : Nat) (mrs : Nat) (x13 : Nat) (x14 : Nat) (x15 : Nat) (x16 : Nat) (mwr : Nat) (x17 : Nat) (mfo : Nat) (v : Nat) (d : Bool) (hgd : mgd = true) (hrd : 16 ≤ mrd) (hr9 : mrd ≤ 17) : Met l yn_Mo_readClause (Cond.code yn_Mo_readClause bc_Mo_readClause 4 none :: kx_all) ({ frames := 1, cells := 0, slots := 0, locals := 21 } : Room) (kp [.ref o, .int (nI v), .int (kb_i d)] D cI cZ [mo_c o mth mty x0 mat mfr mto mgd mrd x1 x2 x3 mhf mhp mcl mck mba mct x4 x5 x6 x7 x8 mst x9 x10 x11 x12 mtr mrs x13 x14 x15 x16 mwr x17 mfo] sz) (kw_q none D kc_l [mo_c o mth mty x0 mat mfr mto false (mrd + 1) x1 x2 x3 mhf mhp mcl mck mba mct x4 x5 x6 x7 x8 mst x9 x10 x11 x12 mtr mrs x13 x14 x15 x16 mwr x17 mfo] (va_A [mo_c o mth mty x0 mat mfr mto mgd mrd x1 x2 x3 mhf mhp mcl mck mba mct x4 x5 x6 x7 x8 mst x9 x10 x11 x12 mtr mrs x13 x14 x15 x16 mwr x17 mfo] sz)) 0 0 (va_A [mo_c o mth mty x0 mat mfr mto mgd mrd x1 x2 x3 mhf mhp mcl mck mba mct x4 x5 x6 x7 x8 mst x9 x10 x11 x12 mtr mrs x13 x14 x15 x16 mwr x17 mfo] sz) := by
  refine kx_metW (by decide) (Nat.le_of_ble_eq_true rfl) ?_
  intro p e s m below meth c ls A hx hb hr hml hts hown hlocks hin hA hP hK hD hN hl hS
  have hown : s.vm.findClass rn_Mo = some m.cls := hown
  have hl : lv_has ls 4 [(0, .ref o), (1, .int (nI v)), (2, .int (kb_i d))] := hl
  refine lv_aload_n hx hb dc_Mo_readClause_0 rfl (lv_at hl 0 rfl) ?_
  refine lv_iload_n hx hb dc_Mo_readClause_1 rfl (lv_at hl 2 rfl) ?_
  refine kw_call0 (wr := []) (ws' := [mo_c o mth mty x0 mat mfr mto false mrd x1 x2 x3 mhf mhp mcl mck mba mct x4 x5 x6 x7 x8 mst x9 x10 x11 x12 mtr mrs x13 x14 x15 x16 mwr x17 mfo]) (va_runV (As := [.int (kb_i d)]) (rest := []) ⟨hx, hb, hml, hown, hts⟩ (ct_Mo_beginClause_full l D cI cZ _ o mth mty x0 mat mfr mto mgd mrd x1 x2 x3 mhf mhp mcl mck mba mct x4 x5 x6 x7 x8 mst x9 x10 x11 x12 mtr mrs x13 x14 x15 x16 mwr x17 mfo d (hgd) (hrd) (by omega)) (cwV 1 hts (kx_gV wd_895 wd_897 (kx_sel (q := (yn_Mo_beginClause, 36)) (List.mem_append_right _ (List.mem_append_left _ (List.mem_of_getElem? (i := 1) rfl)))) wd_9 wd_898) rfl rfl rfl ⟨rfl, yd_Mo_beginClause⟩ ⟨Nat.le_of_ble_eq_true rfl, Nat.le_of_ble_eq_true rfl⟩) (kp_V (q0 := 0) (ci := 10) hP hD hK hN [0] rfl rfl rfl rfl rfl) rfl rfl hl.1 rfl (lv_room (Nat.le_of_ble_eq_true rfl)) dc_Mo_readClause_2 ⟨Nat.le_of_ble_eq_true rfl, Nat.le_of_ble_eq_true rfl⟩) hP hD hS hA [0] [] [0] rfl rfl rfl (by decide) rfl rfl (fun H locs hP hD hS => ?_)
  refine lv_aload_n hx hb dc_Mo_readClause_5 rfl (lv_at hl 0 rfl) ?_
  refine va_get (ci := 10) (v := .int (kb_i false)) (C := rn_Mo) (T := fd_Mo) (N := 36) hx hb hts in_Mo hown hK hP 0 rfl rfl 6 (by decide) (hts _ wd_752) (fun _ h9 => h9) rfl dc_Mo_readClause_6 ?_
  refine kb_if_eq hx hb dc_Mo_readClause_9 rfl (fun hc9 => ?_) (fun hc9 => ?_)
  · refine lv_iconst (v := nI 0) hx hb dc_Mo_readClause_19 (by decide +kernel) ?_
    refine lv_istore_n (lv' := [(3, .int (nI 0)), (0, .ref o), (1, .int (nI v)), (2, .int (kb_i d))]) hx hb dc_Mo_readClause_20 rfl hl (by decide) rfl (fun ls hl => ?_)
    refine lv_aload_n hx hb dc_Mo_readClause_21 rfl (lv_at hl 1 rfl) ?_
    refine va_get (ci := 10) (v := .int (kb_i false)) (C := rn_Mo) (T := fd_Mo) (N := 36) hx hb hts in_Mo hown hK hP 0 rfl rfl 6 (by decide) (hts _ wd_752) (fun _ h9 => h9) rfl dc_Mo_readClause_22 ?_
    refine kb_if_eq hx hb dc_Mo_readClause_25 rfl (fun hc25 => ?_) (fun hc25 => ?_)
    · refine lv_aload_n hx hb dc_Mo_readClause_80 rfl (lv_at hl 1 rfl) ?_
      refine lv_dup hx hb dc_Mo_readClause_81 rfl ?_
      refine va_get (ci := 10) (v := .int (nI mrd)) (C := rn_Mo) (T := fd_Mo) (N := 36) hx hb hts in_Mo hown hK hP 0 rfl rfl 7 (by decide) (hts _ wd_753) (fun _ h9 => h9) rfl dc_Mo_readClause_82 ?_
      refine lv_iconst (v := nI 1) hx hb dc_Mo_readClause_85 (by decide +kernel) ?_
      refine kn_iadd hx hb dc_Mo_readClause_86 ?_
      refine va_put (ci := 10) (v := .int (nI (mrd + 1))) (ty := .int) (C := rn_Mo) (T := fd_Mo) (N := 36) hx hb hts in_Mo ty_Mo tk_Mo nm_Mo hown hK hP hD hS 0 rfl rfl 7 (by decide) (hts _ wd_753) (fun _ h9 => h9) rfl (by decide +kernel) rfl rfl (Nat.le_of_ble_eq_true rfl) dc_Mo_readClause_87 (fun H locs hP hD hS => ?_)
      have hP : va_P D kc_l [mo_c o mth mty x0 mat mfr mto false (mrd + 1) x1 x2 x3 mhf mhp mcl mck mba mct x4 x5 x6 x7 x8 mst x9 x10 x11 x12 mtr mrs x13 x14 x15 x16 mwr x17 mfo] H := hP
      have hD : va_D A [mo_c o mth mty x0 mat mfr mto false (mrd + 1) x1 x2 x3 mhf mhp mcl mck mba mct x4 x5 x6 x7 x8 mst x9 x10 x11 x12 mtr mrs x13 x14 x15 x16 mwr x17 mfo] := hD
      exact kw_vret hx hb hr hlocks hP hD hS dc_Mo_readClause_90 (rfl)
    · exact absurd hc25 (by decide)
  · exact absurd hc9 (by decide)
