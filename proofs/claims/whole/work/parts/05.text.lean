/-! a text: a row of numbers and how many of them count -/
theorem dc_Tx_clear_0 : decode bc_Tx_clear 0 = .ok (.aload_n 0, 1) := by decide +kernel
theorem dc_Tx_clear_1 : decode bc_Tx_clear 1 = .ok (.iconst 0, 1) := by decide +kernel
theorem dc_Tx_clear_2 : decode bc_Tx_clear 2 = .ok (.putfield 15, 3) := by decide +kernel
theorem dc_Tx_clear_5 : decode bc_Tx_clear 5 = .ok (.return_, 1) := by decide +kernel
theorem dc_Tx_put_0 : decode bc_Tx_put 0 = .ok (.aload_n 0, 1) := by decide +kernel
theorem dc_Tx_put_1 : decode bc_Tx_put 1 = .ok (.getfield 15, 3) := by decide +kernel
theorem dc_Tx_put_4 : decode bc_Tx_put 4 = .ok (.aload_n 0, 1) := by decide +kernel
theorem dc_Tx_put_5 : decode bc_Tx_put 5 = .ok (.getfield 9, 3) := by decide +kernel
theorem dc_Tx_put_8 : decode bc_Tx_put 8 = .ok (.arraylength, 1) := by decide +kernel
theorem dc_Tx_put_9 : decode bc_Tx_put 9 = .ok (.if_icmp .ge (23), 3) := by decide +kernel
theorem dc_Tx_put_12 : decode bc_Tx_put 12 = .ok (.aload_n 0, 1) := by decide +kernel
theorem dc_Tx_put_13 : decode bc_Tx_put 13 = .ok (.getfield 9, 3) := by decide +kernel
theorem dc_Tx_put_16 : decode bc_Tx_put 16 = .ok (.aload_n 0, 1) := by decide +kernel
theorem dc_Tx_put_17 : decode bc_Tx_put 17 = .ok (.getfield 15, 3) := by decide +kernel
theorem dc_Tx_put_20 : decode bc_Tx_put 20 = .ok (.iload_n 1, 1) := by decide +kernel
theorem dc_Tx_put_21 : decode bc_Tx_put 21 = .ok (.iastore, 1) := by decide +kernel
theorem dc_Tx_put_22 : decode bc_Tx_put 22 = .ok (.aload_n 0, 1) := by decide +kernel
theorem dc_Tx_put_23 : decode bc_Tx_put 23 = .ok (.dup, 1) := by decide +kernel
theorem dc_Tx_put_24 : decode bc_Tx_put 24 = .ok (.getfield 15, 3) := by decide +kernel
theorem dc_Tx_put_27 : decode bc_Tx_put 27 = .ok (.iconst 1, 1) := by decide +kernel
theorem dc_Tx_put_28 : decode bc_Tx_put 28 = .ok (.iadd, 1) := by decide +kernel
theorem dc_Tx_put_29 : decode bc_Tx_put 29 = .ok (.putfield 15, 3) := by decide +kernel
theorem dc_Tx_put_32 : decode bc_Tx_put 32 = .ok (.return_, 1) := by decide +kernel
theorem dc_Tx_at_0 : decode bc_Tx_at 0 = .ok (.iload_n 1, 1) := by decide +kernel
theorem dc_Tx_at_1 : decode bc_Tx_at 1 = .ok (.ifCond .lt (20), 3) := by decide +kernel
theorem dc_Tx_at_4 : decode bc_Tx_at 4 = .ok (.iload_n 1, 1) := by decide +kernel
theorem dc_Tx_at_5 : decode bc_Tx_at 5 = .ok (.aload_n 0, 1) := by decide +kernel
theorem dc_Tx_at_6 : decode bc_Tx_at 6 = .ok (.getfield 15, 3) := by decide +kernel
theorem dc_Tx_at_9 : decode bc_Tx_at 9 = .ok (.if_icmp .ge (12), 3) := by decide +kernel
theorem dc_Tx_at_12 : decode bc_Tx_at 12 = .ok (.aload_n 0, 1) := by decide +kernel
theorem dc_Tx_at_13 : decode bc_Tx_at 13 = .ok (.getfield 9, 3) := by decide +kernel
theorem dc_Tx_at_16 : decode bc_Tx_at 16 = .ok (.iload_n 1, 1) := by decide +kernel
theorem dc_Tx_at_17 : decode bc_Tx_at 17 = .ok (.iaload, 1) := by decide +kernel
theorem dc_Tx_at_18 : decode bc_Tx_at 18 = .ok (.goto (6), 3) := by decide +kernel
theorem dc_Tx_at_21 : decode bc_Tx_at 21 = .ok (.sipush (-1000), 3) := by decide +kernel
theorem dc_Tx_at_24 : decode bc_Tx_at 24 = .ok (.ireturn, 1) := by decide +kernel
set_option maxHeartbeats 4000000 in
set_option maxRecDepth 100000 in
theorem ct_Tx_clear (l : Launch) (D : va_G) (cI cZ : ClassId) (sz : Nat) (o : Nat) (a : Nat) (n : Nat)  : Met l yn_Tx_clear (Cond.code yn_Tx_clear bc_Tx_clear 1 none :: kx_all) ({ frames := 0, cells := 0, slots := 0, locals := 0 } : Room) (kp [.ref o] D cI cZ [tx_c o a n] sz) (kw_q none D kc_l [tx_c o a 0] (va_A [tx_c o a n] sz)) 0 0 (va_A [tx_c o a n] sz) := by
  refine kx_metW (by decide) (Nat.le_of_ble_eq_true rfl) ?_
  intro p e s m below meth c ls A hx hb hr hml hts hown hlocks hin hA hP hK hD hN hl hS
  have hown : s.vm.findClass rn_Tx = some m.cls := hown
  have hl : lv_has ls 1 [(0, .ref o)] := hl
  refine lv_aload_n hx hb dc_Tx_clear_0 rfl (lv_at hl 0 rfl) ?_
  refine lv_iconst (v := nI 0) hx hb dc_Tx_clear_1 (by decide +kernel) ?_
  refine va_put (ci := 0) (v := .int (nI 0)) (ty := .int) (C := rn_Tx) (T := fd_Tx) (N := 2) hx hb hts in_Tx ty_Tx tk_Tx nm_Tx hown hK hP hD hS 0 rfl rfl 1 (by decide) (hts _ wd_38) (fun _ h9 => h9) rfl (by decide +kernel) rfl rfl (Nat.le_of_ble_eq_true rfl) dc_Tx_clear_2 (fun H locs hP hD hS => ?_)
  have hP : va_P D kc_l [tx_c o a 0] H := hP
  have hD : va_D A [tx_c o a 0] := hD
  exact kw_vret hx hb hr hlocks hP hD hS dc_Tx_clear_5 (rfl)

set_option maxHeartbeats 4000000 in
set_option maxRecDepth 100000 in
theorem ct_Tx_put (l : Launch) (D : va_G) (cI cZ : ClassId) (sz : Nat) (o : Nat) (a : Nat) (N : Nat) (n : Nat) (t : Nat → Nat) (x : Nat) (hN : N < 2 ^ 31) (hn : n < N) : Met l yn_Tx_put (Cond.code yn_Tx_put bc_Tx_put 2 none :: kx_all) ({ frames := 0, cells := 0, slots := 0, locals := 0 } : Room) (kp [.ref o, .int (nI x)] D cI cZ [tx_c o a n, ar_n cI a N t] sz) (kw_q none D kc_l [tx_c o a (n + 1), ar_n cI a N (va_up t n x)] (va_A [tx_c o a n, ar_n cI a N t] sz)) 0 0 (va_A [tx_c o a n, ar_n cI a N t] sz) := by
  refine kx_metW (by decide) (Nat.le_of_ble_eq_true rfl) ?_
  intro p e s m below meth c ls A hx hb hr hml hts hown hlocks hin hA hP hK hD hN hl hS
  have hown : s.vm.findClass rn_Tx = some m.cls := hown
  have hl : lv_has ls 2 [(0, .ref o), (1, .int (nI x))] := hl
  refine lv_aload_n hx hb dc_Tx_put_0 rfl (lv_at hl 0 rfl) ?_
  refine va_get (ci := 0) (v := .int (nI n)) (C := rn_Tx) (T := fd_Tx) (N := 2) hx hb hts in_Tx hown hK hP 0 rfl rfl 1 (by decide) (hts _ wd_38) (fun _ h9 => h9) rfl dc_Tx_put_1 ?_
  refine lv_aload_n hx hb dc_Tx_put_4 rfl (lv_at hl 0 rfl) ?_
  refine va_get (ci := 0) (v := .ref a) (C := rn_Tx) (T := fd_Tx) (N := 2) hx hb hts in_Tx hown hK hP 0 rfl rfl 0 (by decide) (hts _ wd_37) (fun _ h9 => h9) rfl dc_Tx_put_5 ?_
  refine va_alen (v := nI N) hx hb hK hP 1 0 rfl rfl rfl dc_Tx_put_8 ?_
  refine kn_icmp_ge hx hb (by omega) (by omega) dc_Tx_put_9 rfl (fun hc9 => ?_) (fun hc9 => ?_)
  · exfalso; omega
  · refine lv_aload_n hx hb dc_Tx_put_12 rfl (lv_at hl 0 rfl) ?_
    refine va_get (ci := 0) (v := .ref a) (C := rn_Tx) (T := fd_Tx) (N := 2) hx hb hts in_Tx hown hK hP 0 rfl rfl 0 (by decide) (hts _ wd_37) (fun _ h9 => h9) rfl dc_Tx_put_13 ?_
    refine lv_aload_n hx hb dc_Tx_put_16 rfl (lv_at hl 0 rfl) ?_
    refine va_get (ci := 0) (v := .int (nI n)) (C := rn_Tx) (T := fd_Tx) (N := 2) hx hb hts in_Tx hown hK hP 0 rfl rfl 1 (by decide) (hts _ wd_38) (fun _ h9 => h9) rfl dc_Tx_put_17 ?_
    refine lv_iload_n hx hb dc_Tx_put_20 rfl (lv_at hl 1 rfl) ?_
    refine ka_nast (t := t) hx hb hK hP hD hS 1 0 rfl rfl (j := n) (by omega) (by omega) dc_Tx_put_21 (ws' := [tx_c o a n, ar_n cI a N (va_up t n x)]) rfl (fun H locs hP hD hS => ?_)
    refine lv_aload_n hx hb dc_Tx_put_22 rfl (lv_at hl 0 rfl) ?_
    refine lv_dup hx hb dc_Tx_put_23 rfl ?_
    refine va_get (ci := 0) (v := .int (nI n)) (C := rn_Tx) (T := fd_Tx) (N := 2) hx hb hts in_Tx hown hK hP 0 rfl rfl 1 (by decide) (hts _ wd_38) (fun _ h9 => h9) rfl dc_Tx_put_24 ?_
    refine lv_iconst (v := nI 1) hx hb dc_Tx_put_27 (by decide +kernel) ?_
    refine kn_iadd hx hb dc_Tx_put_28 ?_
    refine va_put (ci := 0) (v := .int (nI (n + 1))) (ty := .int) (C := rn_Tx) (T := fd_Tx) (N := 2) hx hb hts in_Tx ty_Tx tk_Tx nm_Tx hown hK hP hD hS 0 rfl rfl 1 (by decide) (hts _ wd_38) (fun _ h9 => h9) rfl (by decide +kernel) rfl rfl (Nat.le_of_ble_eq_true rfl) dc_Tx_put_29 (fun H locs hP hD hS => ?_)
    have hP : va_P D kc_l [tx_c o a (n + 1), ar_n cI a N (va_up t n x)] H := hP
    have hD : va_D A [tx_c o a (n + 1), ar_n cI a N (va_up t n x)] := hD
    exact kw_vret hx hb hr hlocks hP hD hS dc_Tx_put_32 (rfl)

/-- the byte at a place, or the number that says that there is none -/
def pt_at (t : Nat → Nat) (n : Nat) (i : Int32) : Int32 := if i < 0 ∨ nI n ≤ i then (-1000) else nI (t i.toNatClampNeg)
theorem pt_at_lt {t : Nat → Nat} {n : Nat} {i : Int32} (h : i < 0) : pt_at t n i = (-1000) := if_pos (Or.inl h)
theorem pt_at_ge {t : Nat → Nat} {n : Nat} {i : Int32} (h : nI n ≤ i) (hn : n < 2 ^ 31) : pt_at t n i = (-1000) := if_pos (Or.inr h)
theorem pt_at_in {t : Nat → Nat} {n j : Nat} (h : j < n) (hn : n < 2 ^ 31) : pt_at t n (nI j) = nI (t j) := by
  unfold pt_at
  rw [if_neg, nI_clamp (by omega)]
  rintro (q | q)
  · exact nI_pos (by omega) q
  · exact nI_ge h hn q
theorem pt_at_out {t : Nat → Nat} {n j : Nat} (h : n ≤ j) (hj : j < 2 ^ 31) : pt_at t n (nI j) = (-1000) := if_pos (Or.inr (nI_le h hj))
theorem ni_nlt {n : Nat} {i : Int32} (h : nI n ≤ i) (hn : n < 2 ^ 31) : ¬ i < 0 := by
  intro q
  have h1 := Int32.le_iff_toInt_le.mp h
  have h2 := Int32.lt_iff_toInt_lt.mp q
  rw [nI_toInt hn] at h1
  have h3 : (0 : Int32).toInt = 0 := rfl
  omega

set_option maxHeartbeats 4000000 in
set_option maxRecDepth 100000 in
theorem ct_Tx_at (l : Launch) (D : va_G) (cI cZ : ClassId) (sz : Nat) (o : Nat) (a : Nat) (N : Nat) (n : Nat) (t : Nat → Nat) (i : Int32) (hN : N < 2 ^ 31) (hn : n ≤ N) : Met l yn_Tx_at (Cond.code yn_Tx_at bc_Tx_at 2 (some .int) :: kx_all) ({ frames := 0, cells := 0, slots := 0, locals := 0 } : Room) (kp [.ref o, .int i] D cI cZ [tx_c o a n, ar_n cI a N t] sz) (kr_q (some (.int (pt_at t n i)))) 0 0 (fun _ => False) := by
  refine kx_met (by decide) (Nat.le_of_ble_eq_true rfl) ?_
  intro p e s m below meth c ls hx hb hr hml hts hown hlocks hin hsz hP hK hD hN hl
  have hown : s.vm.findClass rn_Tx = some m.cls := hown
  have hl : lv_has ls 2 [(0, .ref o), (1, .int i)] := hl
  have hn2 : n < 2 ^ 31 := by omega
  rcases pk_ix i (show n < 2 ^ 31 by omega) with hi | hi | ⟨j, hj, rfl⟩
  · refine lv_iload_n hx hb dc_Tx_at_0 rfl (lv_at hl 1 rfl) ?_
    refine lv_if_lt hx hb dc_Tx_at_1 rfl (fun hc1 => ?_) (fun hc1 => ?_)
    · refine lv_sipush (v := (-1000)) hx hb dc_Tx_at_21 (by decide +kernel) ?_
      exact kr_iret hx hb hr hlocks dc_Tx_at_24 ((pt_at_lt hi).symm)
    · exact absurd hi hc1
  · refine lv_iload_n hx hb dc_Tx_at_0 rfl (lv_at hl 1 rfl) ?_
    refine lv_if_lt hx hb dc_Tx_at_1 rfl (fun hc1 => ?_) (fun hc1 => ?_)
    · exfalso; exact absurd hc1 (ni_nlt hi hn2)
    · refine lv_iload_n hx hb dc_Tx_at_4 rfl (lv_at hl 1 rfl) ?_
      refine lv_aload_n hx hb dc_Tx_at_5 rfl (lv_at hl 0 rfl) ?_
      refine va_get (ci := 0) (v := .int (nI n)) (C := rn_Tx) (T := fd_Tx) (N := 2) hx hb hts in_Tx hown hK hP 0 rfl rfl 1 (by decide) (hts _ wd_38) (fun _ h9 => h9) rfl dc_Tx_at_6 ?_
      refine lv_icmp_ge hx hb dc_Tx_at_9 rfl (fun hc9 => ?_) (fun hc9 => ?_)
      · refine lv_sipush (v := (-1000)) hx hb dc_Tx_at_21 (by decide +kernel) ?_
        exact kr_iret hx hb hr hlocks dc_Tx_at_24 ((pt_at_ge hi hn2).symm)
      · exact absurd hi hc9
  · refine lv_iload_n hx hb dc_Tx_at_0 rfl (lv_at hl 1 rfl) ?_
    refine lv_if_lt hx hb dc_Tx_at_1 rfl (fun hc1 => ?_) (fun hc1 => ?_)
    · exact absurd hc1 (nI_pos (by omega))
    · refine lv_iload_n hx hb dc_Tx_at_4 rfl (lv_at hl 1 rfl) ?_
      refine lv_aload_n hx hb dc_Tx_at_5 rfl (lv_at hl 0 rfl) ?_
      refine va_get (ci := 0) (v := .int (nI n)) (C := rn_Tx) (T := fd_Tx) (N := 2) hx hb hts in_Tx hown hK hP 0 rfl rfl 1 (by decide) (hts _ wd_38) (fun _ h9 => h9) rfl dc_Tx_at_6 ?_
      refine kn_icmp_ge hx hb (by omega) (by omega) dc_Tx_at_9 rfl (fun hc9 => ?_) (fun hc9 => ?_)
      · exfalso; omega
      · refine lv_aload_n hx hb dc_Tx_at_12 rfl (lv_at hl 0 rfl) ?_
        refine va_get (ci := 0) (v := .ref a) (C := rn_Tx) (T := fd_Tx) (N := 2) hx hb hts in_Tx hown hK hP 0 rfl rfl 0 (by decide) (hts _ wd_37) (fun _ h9 => h9) rfl dc_Tx_at_13 ?_
        refine lv_iload_n hx hb dc_Tx_at_16 rfl (lv_at hl 1 rfl) ?_
        refine ka_nald (t := t) hx hb hK hP 1 0 rfl rfl (j := j) (by omega) (by omega) dc_Tx_at_17 ?_
        refine lv_goto hx hb dc_Tx_at_18 rfl ?_
        exact kr_iret hx hb hr hlocks dc_Tx_at_24 ((pt_at_in hj hn2).symm)

theorem ct_Tx_atn (l : Launch) (D : va_G) (cI cZ : ClassId) (sz : Nat) (o : Nat) (a : Nat) (N : Nat) (n : Nat) (t : Nat → Nat) (j : Nat) (hN : N < 2 ^ 31) (hn : n ≤ N) (hj : j < n) : Met l yn_Tx_at (Cond.code yn_Tx_at bc_Tx_at 2 (some .int) :: kx_all) ({ frames := 0, cells := 0, slots := 0, locals := 0 } : Room) (kp [.ref o, .int (nI j)] D cI cZ [tx_c o a n, ar_n cI a N t] sz) (kr_q (some (.int (nI (t j))))) 0 0 (fun _ => False) := by
  have h := ct_Tx_at l D cI cZ sz o a N n t (nI j) hN hn
  rw [pt_at_in hj (by omega)] at h
  exact h
