/-! what a check leaves -/
def pt_zr (f : Nat → Nat) (k : Nat) : Nat → Nat := fun j => if j < k then 0 else f j
theorem zr_0 {f : Nat → Nat} : pt_zr f 0 = f := by
  funext i
  unfold pt_zr
  rw [if_neg (by omega)]
theorem zr_s {f : Nat → Nat} {k : Nat} : va_up (pt_zr f k) k 0 = pt_zr f (k + 1) := by
  funext i
  unfold va_up pt_zr
  by_cases h : i = k
  · rw [if_pos h, if_pos (by omega)]
  · rw [if_neg h]
    by_cases h2 : i < k
    · rw [if_pos h2, if_pos (by omega)]
    · rw [if_neg h2, if_neg (by omega)]
/-- how many hints a clause has; a hint -/
def pt_hc (fc : Nat → Nat) (j : Nat) : Nat := if 1 ≤ j ∧ j ≤ 32 then fc j else 0
def pt_hv (ft fc : Nat → Nat) (fr : Nat → Int32) (j k : Nat) : Int32 := if k < pt_hc fc j then fr (ft j + k) else 0
theorem hc_in {fc : Nat → Nat} {j k : Nat} (h : k < pt_hc fc j) : 1 ≤ j ∧ j ≤ 32 ∧ k < fc j := by
  unfold pt_hc at h
  split at h
  · exact ⟨by omega, by omega, h⟩
  · omega

theorem dc_Tr_forget_0 : decode bc_Tr_forget 0 = .ok (.aload_n 0, 1) := by decide +kernel
theorem dc_Tr_forget_1 : decode bc_Tr_forget 1 = .ok (.iconst 0, 1) := by decide +kernel
theorem dc_Tr_forget_2 : decode bc_Tr_forget 2 = .ok (.putfield 21, 3) := by decide +kernel
theorem dc_Tr_forget_5 : decode bc_Tr_forget 5 = .ok (.aload_n 0, 1) := by decide +kernel
theorem dc_Tr_forget_6 : decode bc_Tr_forget 6 = .ok (.lconst 0, 1) := by decide +kernel
theorem dc_Tr_forget_7 : decode bc_Tr_forget 7 = .ok (.putfield 25, 3) := by decide +kernel
theorem dc_Tr_forget_10 : decode bc_Tr_forget 10 = .ok (.aload_n 0, 1) := by decide +kernel
theorem dc_Tr_forget_11 : decode bc_Tr_forget 11 = .ok (.iconst 0, 1) := by decide +kernel
theorem dc_Tr_forget_12 : decode bc_Tr_forget 12 = .ok (.putfield 29, 3) := by decide +kernel
theorem dc_Tr_forget_15 : decode bc_Tr_forget 15 = .ok (.iconst 0, 1) := by decide +kernel
theorem dc_Tr_forget_16 : decode bc_Tr_forget 16 = .ok (.istore_n 1, 1) := by decide +kernel
theorem dc_Tr_forget_17 : decode bc_Tr_forget 17 = .ok (.iload_n 1, 1) := by decide +kernel
theorem dc_Tr_forget_18 : decode bc_Tr_forget 18 = .ok (.bipush (32), 2) := by decide +kernel
theorem dc_Tr_forget_20 : decode bc_Tr_forget 20 = .ok (.if_icmp .gt (16), 3) := by decide +kernel
theorem dc_Tr_forget_23 : decode bc_Tr_forget 23 = .ok (.aload_n 0, 1) := by decide +kernel
theorem dc_Tr_forget_24 : decode bc_Tr_forget 24 = .ok (.getfield 15, 3) := by decide +kernel
theorem dc_Tr_forget_27 : decode bc_Tr_forget 27 = .ok (.iload_n 1, 1) := by decide +kernel
theorem dc_Tr_forget_28 : decode bc_Tr_forget 28 = .ok (.iconst 0, 1) := by decide +kernel
theorem dc_Tr_forget_29 : decode bc_Tr_forget 29 = .ok (.iastore, 1) := by decide +kernel
theorem dc_Tr_forget_30 : decode bc_Tr_forget 30 = .ok (.iinc 1 (1), 3) := by decide +kernel
theorem dc_Tr_forget_33 : decode bc_Tr_forget 33 = .ok (.goto (-16), 3) := by decide +kernel
theorem dc_Tr_forget_36 : decode bc_Tr_forget 36 = .ok (.return_, 1) := by decide +kernel
theorem dc_Tr_begin_0 : decode bc_Tr_begin 0 = .ok (.aload_n 0, 1) := by decide +kernel
theorem dc_Tr_begin_1 : decode bc_Tr_begin 1 = .ok (.getfield 9, 3) := by decide +kernel
theorem dc_Tr_begin_4 : decode bc_Tr_begin 4 = .ok (.iload_n 1, 1) := by decide +kernel
theorem dc_Tr_begin_5 : decode bc_Tr_begin 5 = .ok (.aload_n 0, 1) := by decide +kernel
theorem dc_Tr_begin_6 : decode bc_Tr_begin 6 = .ok (.getfield 21, 3) := by decide +kernel
theorem dc_Tr_begin_9 : decode bc_Tr_begin 9 = .ok (.iastore, 1) := by decide +kernel
theorem dc_Tr_begin_10 : decode bc_Tr_begin 10 = .ok (.return_, 1) := by decide +kernel
theorem dc_Tr_append_0 : decode bc_Tr_append 0 = .ok (.aload_n 0, 1) := by decide +kernel
theorem dc_Tr_append_1 : decode bc_Tr_append 1 = .ok (.getfield 21, 3) := by decide +kernel
theorem dc_Tr_append_4 : decode bc_Tr_append 4 = .ok (.aload_n 0, 1) := by decide +kernel
theorem dc_Tr_append_5 : decode bc_Tr_append 5 = .ok (.getfield 18, 3) := by decide +kernel
theorem dc_Tr_append_8 : decode bc_Tr_append 8 = .ok (.arraylength, 1) := by decide +kernel
theorem dc_Tr_append_9 : decode bc_Tr_append 9 = .ok (.if_icmp .ge (33), 3) := by decide +kernel
theorem dc_Tr_append_12 : decode bc_Tr_append 12 = .ok (.aload_n 0, 1) := by decide +kernel
theorem dc_Tr_append_13 : decode bc_Tr_append 13 = .ok (.getfield 18, 3) := by decide +kernel
theorem dc_Tr_append_16 : decode bc_Tr_append 16 = .ok (.aload_n 0, 1) := by decide +kernel
theorem dc_Tr_append_17 : decode bc_Tr_append 17 = .ok (.getfield 21, 3) := by decide +kernel
theorem dc_Tr_append_20 : decode bc_Tr_append 20 = .ok (.iload_n 2, 1) := by decide +kernel
theorem dc_Tr_append_21 : decode bc_Tr_append 21 = .ok (.iastore, 1) := by decide +kernel
theorem dc_Tr_append_22 : decode bc_Tr_append 22 = .ok (.aload_n 0, 1) := by decide +kernel
theorem dc_Tr_append_23 : decode bc_Tr_append 23 = .ok (.dup, 1) := by decide +kernel
theorem dc_Tr_append_24 : decode bc_Tr_append 24 = .ok (.getfield 21, 3) := by decide +kernel
theorem dc_Tr_append_27 : decode bc_Tr_append 27 = .ok (.iconst 1, 1) := by decide +kernel
theorem dc_Tr_append_28 : decode bc_Tr_append 28 = .ok (.iadd, 1) := by decide +kernel
theorem dc_Tr_append_29 : decode bc_Tr_append 29 = .ok (.putfield 21, 3) := by decide +kernel
theorem dc_Tr_append_32 : decode bc_Tr_append 32 = .ok (.aload_n 0, 1) := by decide +kernel
theorem dc_Tr_append_33 : decode bc_Tr_append 33 = .ok (.getfield 15, 3) := by decide +kernel
theorem dc_Tr_append_36 : decode bc_Tr_append 36 = .ok (.iload_n 1, 1) := by decide +kernel
theorem dc_Tr_append_37 : decode bc_Tr_append 37 = .ok (.dup2, 1) := by decide +kernel
theorem dc_Tr_append_38 : decode bc_Tr_append 38 = .ok (.iaload, 1) := by decide +kernel
theorem dc_Tr_append_39 : decode bc_Tr_append 39 = .ok (.iconst 1, 1) := by decide +kernel
theorem dc_Tr_append_40 : decode bc_Tr_append 40 = .ok (.iadd, 1) := by decide +kernel
theorem dc_Tr_append_41 : decode bc_Tr_append 41 = .ok (.iastore, 1) := by decide +kernel
theorem dc_Tr_append_42 : decode bc_Tr_append 42 = .ok (.return_, 1) := by decide +kernel
theorem dc_Tr_countOf_0 : decode bc_Tr_countOf 0 = .ok (.iload_n 1, 1) := by decide +kernel
theorem dc_Tr_countOf_1 : decode bc_Tr_countOf 1 = .ok (.iconst 1, 1) := by decide +kernel
theorem dc_Tr_countOf_2 : decode bc_Tr_countOf 2 = .ok (.if_icmp .lt (18), 3) := by decide +kernel
theorem dc_Tr_countOf_5 : decode bc_Tr_countOf 5 = .ok (.iload_n 1, 1) := by decide +kernel
theorem dc_Tr_countOf_6 : decode bc_Tr_countOf 6 = .ok (.bipush (32), 2) := by decide +kernel
theorem dc_Tr_countOf_8 : decode bc_Tr_countOf 8 = .ok (.if_icmp .gt (12), 3) := by decide +kernel
theorem dc_Tr_countOf_11 : decode bc_Tr_countOf 11 = .ok (.aload_n 0, 1) := by decide +kernel
theorem dc_Tr_countOf_12 : decode bc_Tr_countOf 12 = .ok (.getfield 15, 3) := by decide +kernel
theorem dc_Tr_countOf_15 : decode bc_Tr_countOf 15 = .ok (.iload_n 1, 1) := by decide +kernel
theorem dc_Tr_countOf_16 : decode bc_Tr_countOf 16 = .ok (.iaload, 1) := by decide +kernel
theorem dc_Tr_countOf_17 : decode bc_Tr_countOf 17 = .ok (.goto (4), 3) := by decide +kernel
theorem dc_Tr_countOf_20 : decode bc_Tr_countOf 20 = .ok (.iconst 0, 1) := by decide +kernel
theorem dc_Tr_countOf_21 : decode bc_Tr_countOf 21 = .ok (.ireturn, 1) := by decide +kernel
theorem dc_Tr_hintAt_0 : decode bc_Tr_hintAt 0 = .ok (.iload_n 2, 1) := by decide +kernel
theorem dc_Tr_hintAt_1 : decode bc_Tr_hintAt 1 = .ok (.ifCond .lt (28), 3) := by decide +kernel
theorem dc_Tr_hintAt_4 : decode bc_Tr_hintAt 4 = .ok (.iload_n 2, 1) := by decide +kernel
theorem dc_Tr_hintAt_5 : decode bc_Tr_hintAt 5 = .ok (.aload_n 0, 1) := by decide +kernel
theorem dc_Tr_hintAt_6 : decode bc_Tr_hintAt 6 = .ok (.iload_n 1, 1) := by decide +kernel
theorem dc_Tr_hintAt_7 : decode bc_Tr_hintAt 7 = .ok (.invokevirtual 33, 3) := by decide +kernel
theorem dc_Tr_hintAt_10 : decode bc_Tr_hintAt 10 = .ok (.if_icmp .ge (19), 3) := by decide +kernel
theorem dc_Tr_hintAt_13 : decode bc_Tr_hintAt 13 = .ok (.aload_n 0, 1) := by decide +kernel
theorem dc_Tr_hintAt_14 : decode bc_Tr_hintAt 14 = .ok (.getfield 18, 3) := by decide +kernel
theorem dc_Tr_hintAt_17 : decode bc_Tr_hintAt 17 = .ok (.aload_n 0, 1) := by decide +kernel
theorem dc_Tr_hintAt_18 : decode bc_Tr_hintAt 18 = .ok (.getfield 9, 3) := by decide +kernel
theorem dc_Tr_hintAt_21 : decode bc_Tr_hintAt 21 = .ok (.iload_n 1, 1) := by decide +kernel
theorem dc_Tr_hintAt_22 : decode bc_Tr_hintAt 22 = .ok (.iaload, 1) := by decide +kernel
theorem dc_Tr_hintAt_23 : decode bc_Tr_hintAt 23 = .ok (.iload_n 2, 1) := by decide +kernel
theorem dc_Tr_hintAt_24 : decode bc_Tr_hintAt 24 = .ok (.iadd, 1) := by decide +kernel
theorem dc_Tr_hintAt_25 : decode bc_Tr_hintAt 25 = .ok (.iaload, 1) := by decide +kernel
theorem dc_Tr_hintAt_26 : decode bc_Tr_hintAt 26 = .ok (.goto (4), 3) := by decide +kernel
theorem dc_Tr_hintAt_29 : decode bc_Tr_hintAt 29 = .ok (.iconst 0, 1) := by decide +kernel
theorem dc_Tr_hintAt_30 : decode bc_Tr_hintAt 30 = .ok (.ireturn, 1) := by decide +kernel
theorem dc_Tr_replace_0 : decode bc_Tr_replace 0 = .ok (.iload_n 2, 1) := by decide +kernel
theorem dc_Tr_replace_1 : decode bc_Tr_replace 1 = .ok (.ifCond .lt (12), 3) := by decide +kernel
theorem dc_Tr_replace_4 : decode bc_Tr_replace 4 = .ok (.iload_n 2, 1) := by decide +kernel
theorem dc_Tr_replace_5 : decode bc_Tr_replace 5 = .ok (.aload_n 0, 1) := by decide +kernel
theorem dc_Tr_replace_6 : decode bc_Tr_replace 6 = .ok (.iload_n 1, 1) := by decide +kernel
theorem dc_Tr_replace_7 : decode bc_Tr_replace 7 = .ok (.invokevirtual 33, 3) := by decide +kernel
theorem dc_Tr_replace_10 : decode bc_Tr_replace 10 = .ok (.if_icmp .lt (5), 3) := by decide +kernel
theorem dc_Tr_replace_13 : decode bc_Tr_replace 13 = .ok (.iconst 0, 1) := by decide +kernel
theorem dc_Tr_replace_14 : decode bc_Tr_replace 14 = .ok (.ireturn, 1) := by decide +kernel
theorem dc_Tr_replace_15 : decode bc_Tr_replace 15 = .ok (.aload_n 0, 1) := by decide +kernel
theorem dc_Tr_replace_16 : decode bc_Tr_replace 16 = .ok (.getfield 18, 3) := by decide +kernel
theorem dc_Tr_replace_19 : decode bc_Tr_replace 19 = .ok (.aload_n 0, 1) := by decide +kernel
theorem dc_Tr_replace_20 : decode bc_Tr_replace 20 = .ok (.getfield 9, 3) := by decide +kernel
theorem dc_Tr_replace_23 : decode bc_Tr_replace 23 = .ok (.iload_n 1, 1) := by decide +kernel
theorem dc_Tr_replace_24 : decode bc_Tr_replace 24 = .ok (.iaload, 1) := by decide +kernel
theorem dc_Tr_replace_25 : decode bc_Tr_replace 25 = .ok (.iload_n 2, 1) := by decide +kernel
theorem dc_Tr_replace_26 : decode bc_Tr_replace 26 = .ok (.iadd, 1) := by decide +kernel
theorem dc_Tr_replace_27 : decode bc_Tr_replace 27 = .ok (.iload_n 3, 1) := by decide +kernel
theorem dc_Tr_replace_28 : decode bc_Tr_replace 28 = .ok (.iastore, 1) := by decide +kernel
theorem dc_Tr_replace_29 : decode bc_Tr_replace 29 = .ok (.iconst 1, 1) := by decide +kernel
theorem dc_Tr_replace_30 : decode bc_Tr_replace 30 = .ok (.ireturn, 1) := by decide +kernel
set_option maxHeartbeats 4000000 in
set_option maxRecDepth 100000 in
theorem ct_Tr_forget (l : Launch) (D : va_G) (cI cZ : ClassId) (sz : Nat) (o : Nat) (qa : Nat) (qb : Nat) (qd : Nat) (n : Nat) (mk : Nat) (ck : Bool) (ft : Nat → Nat) (fc : Nat → Nat) (fr : Nat → Int32)  : Met l yn_Tr_forget (Cond.code yn_Tr_forget bc_Tr_forget 2 none :: kx_all) ({ frames := 0, cells := 0, slots := 0, locals := 0 } : Room) (kp [.ref o] D cI cZ [tr_c o qa qb qd n mk ck, ar_n cI qa 33 ft, ar_n cI qb 33 fc, ar_i cI qd 2048 fr] sz) (kw_q none D kc_l [tr_c o qa qb qd 0 0 false, ar_n cI qa 33 ft, ar_n cI qb 33 (pt_zr fc 33), ar_i cI qd 2048 fr] (va_A [tr_c o qa qb qd n mk ck, ar_n cI qa 33 ft, ar_n cI qb 33 fc, ar_i cI qd 2048 fr] sz)) 0 0 (va_A [tr_c o qa qb qd n mk ck, ar_n cI qa 33 ft, ar_n cI qb 33 fc, ar_i cI qd 2048 fr] sz) := by
  refine kx_metW (by decide) (Nat.le_of_ble_eq_true rfl) ?_
  intro p e s m below meth c ls A hx hb hr hml hts hown hlocks hin hA hP hK hD hN hl hS
  have hown : s.vm.findClass rn_Tr = some m.cls := hown
  have hl : lv_has ls 2 [(0, .ref o)] := hl
  refine lv_aload_n hx hb dc_Tr_forget_0 rfl (lv_at hl 0 rfl) ?_
  refine lv_iconst (v := nI 0) hx hb dc_Tr_forget_1 (by decide +kernel) ?_
  refine va_put (ci := 5) (v := .int (nI 0)) (ty := .int) (C := rn_Tr) (T := fd_Tr) (N := 6) hx hb hts in_Tr ty_Tr tk_Tr nm_Tr hown hK hP hD hS 0 rfl rfl 3 (by decide) (hts _ wd_138) (fun _ h9 => h9) rfl (by decide +kernel) rfl rfl (Nat.le_of_ble_eq_true rfl) dc_Tr_forget_2 (fun H locs hP hD hS => ?_)
  have hP : va_P D kc_l [tr_c o qa qb qd 0 mk ck, ar_n cI qa 33 ft, ar_n cI qb 33 fc, ar_i cI qd 2048 fr] H := hP
  have hD : va_D A [tr_c o qa qb qd 0 mk ck, ar_n cI qa 33 ft, ar_n cI qb 33 fc, ar_i cI qd 2048 fr] := hD
  refine lv_aload_n hx hb dc_Tr_forget_5 rfl (lv_at hl 0 rfl) ?_
  refine lv_lconst (v := lN 0) hx hb dc_Tr_forget_6 (by decide +kernel) ?_
  refine va_put (ci := 5) (v := .long (lN 0)) (ty := .long) (C := rn_Tr) (T := fd_Tr) (N := 6) hx hb hts in_Tr ty_Tr tk_Tr nm_Tr hown hK hP hD hS 0 rfl rfl 4 (by decide) (hts _ wd_139) (fun _ h9 => h9) rfl (by decide +kernel) rfl rfl (Nat.le_of_ble_eq_true rfl) dc_Tr_forget_7 (fun H locs hP hD hS => ?_)
  have hP : va_P D kc_l [tr_c o qa qb qd 0 0 ck, ar_n cI qa 33 ft, ar_n cI qb 33 fc, ar_i cI qd 2048 fr] H := hP
  have hD : va_D A [tr_c o qa qb qd 0 0 ck, ar_n cI qa 33 ft, ar_n cI qb 33 fc, ar_i cI qd 2048 fr] := hD
  refine lv_aload_n hx hb dc_Tr_forget_10 rfl (lv_at hl 0 rfl) ?_
  refine lv_iconst (v := nI 0) hx hb dc_Tr_forget_11 (by decide +kernel) ?_
  refine kn_top (y := kb_i false) (by decide +kernel) ?_
  refine va_put (ci := 5) (v := .int (kb_i false)) (ty := .boolean) (C := rn_Tr) (T := fd_Tr) (N := 6) hx hb hts in_Tr ty_Tr tk_Tr nm_Tr hown hK hP hD hS 0 rfl rfl 5 (by decide) (hts _ wd_143) (fun _ h9 => h9) rfl (by decide +kernel) (kb_nar _) (kb_fit _) (Nat.le_of_ble_eq_true rfl) dc_Tr_forget_12 (fun H locs hP hD hS => ?_)
  have hP : va_P D kc_l [tr_c o qa qb qd 0 0 false, ar_n cI qa 33 ft, ar_n cI qb 33 fc, ar_i cI qd 2048 fr] H := hP
  have hD : va_D A [tr_c o qa qb qd 0 0 false, ar_n cI qa 33 ft, ar_n cI qb 33 fc, ar_i cI qd 2048 fr] := hD
  refine lv_iconst (v := nI 0) hx hb dc_Tr_forget_15 (by decide +kernel) ?_
  refine lv_istore_n (lv' := [(1, .int (nI 0)), (0, .ref o)]) hx hb dc_Tr_forget_16 rfl hl (by decide) rfl (fun ls hl => ?_)
  have lp_17 : ∀ (K : Nat) (k : Nat) (zc : Nat → Nat) (H : Heap) (locs : List Loc) (ls : Array Slot), 33 - k < K → va_P D kc_l [tr_c o qa qb qd 0 0 false, ar_n cI qa 33 ft, ar_n cI qb 33 zc, ar_i cI qd 2048 fr] H → va_D A [tr_c o qa qb qd 0 0 false, ar_n cI qa 33 ft, ar_n cI qb 33 zc, ar_i cI qd 2048 fr] → va_S A s.heap H locs → lv_has ls 2 [(1, .int (nI k)), (0, .ref o)] → (zc = pt_zr fc k) → (k ≤ 33) → W p l e ({ frames := 0, cells := 0, slots := 0, locals := 0 } : Room) s m ([.ref o] : List Value).toArray below meth c H locs 0 0 (MQ below (kw_q none D kc_l [tr_c o qa qb qd 0 0 false, ar_n cI qa 33 ft, ar_n cI qb 33 (pt_zr fc 33), ar_i cI qd 2048 fr] A) ([.ref o] : List Value).toArray s 0 0 A) (F0 m 17 ls []) := by
    intro K
    induction K with
    | zero =>
      intro k zc H locs ls hk
      exact absurd hk (Nat.not_lt_zero _)
    | succ K ih =>
      intro k zc H locs ls hk hP hD hS hl hzc hk2
      refine lv_iload_n hx hb dc_Tr_forget_17 rfl (lv_at hl 0 rfl) ?_
      refine lv_bipush (v := nI 32) hx hb dc_Tr_forget_18 (by decide +kernel) ?_
      refine kn_icmp_gt hx hb (by omega) (by omega) dc_Tr_forget_20 rfl (fun hc20 => ?_) (fun hc20 => ?_)
      · exact kw_vret hx hb hr hlocks hP hD hS dc_Tr_forget_36 (by rw [hzc, show k = 33 by omega])
      · refine lv_aload_n hx hb dc_Tr_forget_23 rfl (lv_at hl 1 rfl) ?_
        refine va_get (ci := 5) (v := .ref qb) (C := rn_Tr) (T := fd_Tr) (N := 6) hx hb hts in_Tr hown hK hP 0 rfl rfl 1 (by decide) (hts _ wd_136) (fun _ h9 => h9) rfl dc_Tr_forget_24 ?_
        refine lv_iload_n hx hb dc_Tr_forget_27 rfl (lv_at hl 0 rfl) ?_
        refine lv_iconst (v := nI 0) hx hb dc_Tr_forget_28 (by decide +kernel) ?_
        refine ka_nast (t := zc) hx hb hK hP hD hS 2 0 rfl rfl (j := k) (by omega) (by omega) dc_Tr_forget_29 (ws' := [tr_c o qa qb qd 0 0 false, ar_n cI qa 33 ft, ar_n cI qb 33 (va_up zc k 0), ar_i cI qd 2048 fr]) rfl (fun H locs hP hD hS => ?_)
        refine lv_iinc (k := 0) (v := nI (k + 1)) (lv' := [(1, .int (nI (k + 1))), (0, .ref o)]) hx hb dc_Tr_forget_30 hl rfl (nI_1 _) (by decide) rfl (fun ls hl => ?_)
        refine lv_goto hx hb dc_Tr_forget_33 rfl ?_
        exact ih _ _ _ _ _ (by omega) hP hD hS hl (by rw [hzc]; exact zr_s) (by omega)
  exact lp_17 _ _ _ _ _ _ (Nat.lt_succ_self _) hP hD hS hl (zr_0.symm) (by omega)

set_option maxHeartbeats 4000000 in
set_option maxRecDepth 100000 in
theorem ct_Tr_begin (l : Launch) (D : va_G) (cI cZ : ClassId) (sz : Nat) (o : Nat) (qa : Nat) (qb : Nat) (qd : Nat) (n : Nat) (mk : Nat) (ck : Bool) (ft : Nat → Nat) (fc : Nat → Nat) (fr : Nat → Int32) (j : Nat) (hj : j < 33) : Met l yn_Tr_begin (Cond.code yn_Tr_begin bc_Tr_begin 2 none :: kx_all) ({ frames := 0, cells := 0, slots := 0, locals := 0 } : Room) (kp [.ref o, .int (nI j)] D cI cZ [tr_c o qa qb qd n mk ck, ar_n cI qa 33 ft, ar_n cI qb 33 fc, ar_i cI qd 2048 fr] sz) (kw_q none D kc_l [tr_c o qa qb qd n mk ck, ar_n cI qa 33 (va_up ft j n), ar_n cI qb 33 fc, ar_i cI qd 2048 fr] (va_A [tr_c o qa qb qd n mk ck, ar_n cI qa 33 ft, ar_n cI qb 33 fc, ar_i cI qd 2048 fr] sz)) 0 0 (va_A [tr_c o qa qb qd n mk ck, ar_n cI qa 33 ft, ar_n cI qb 33 fc, ar_i cI qd 2048 fr] sz) := by
  refine kx_metW (by decide) (Nat.le_of_ble_eq_true rfl) ?_
  intro p e s m below meth c ls A hx hb hr hml hts hown hlocks hin hA hP hK hD hN hl hS
  have hown : s.vm.findClass rn_Tr = some m.cls := hown
  have hl : lv_has ls 2 [(0, .ref o), (1, .int (nI j))] := hl
  refine lv_aload_n hx hb dc_Tr_begin_0 rfl (lv_at hl 0 rfl) ?_
  refine va_get (ci := 5) (v := .ref qa) (C := rn_Tr) (T := fd_Tr) (N := 6) hx hb hts in_Tr hown hK hP 0 rfl rfl 0 (by decide) (hts _ wd_135) (fun _ h9 => h9) rfl dc_Tr_begin_1 ?_
  refine lv_iload_n hx hb dc_Tr_begin_4 rfl (lv_at hl 1 rfl) ?_
  refine lv_aload_n hx hb dc_Tr_begin_5 rfl (lv_at hl 0 rfl) ?_
  refine va_get (ci := 5) (v := .int (nI n)) (C := rn_Tr) (T := fd_Tr) (N := 6) hx hb hts in_Tr hown hK hP 0 rfl rfl 3 (by decide) (hts _ wd_138) (fun _ h9 => h9) rfl dc_Tr_begin_6 ?_
  refine ka_nast (t := ft) hx hb hK hP hD hS 1 0 rfl rfl (j := j) (by omega) (by omega) dc_Tr_begin_9 (ws' := [tr_c o qa qb qd n mk ck, ar_n cI qa 33 (va_up ft j n), ar_n cI qb 33 fc, ar_i cI qd 2048 fr]) rfl (fun H locs hP hD hS => ?_)
  exact kw_vret hx hb hr hlocks hP hD hS dc_Tr_begin_10 (rfl)

set_option maxHeartbeats 4000000 in
set_option maxRecDepth 100000 in
theorem ct_Tr_append (l : Launch) (D : va_G) (cI cZ : ClassId) (sz : Nat) (o : Nat) (qa : Nat) (qb : Nat) (qd : Nat) (n : Nat) (mk : Nat) (ck : Bool) (ft : Nat → Nat) (fc : Nat → Nat) (fr : Nat → Int32) (j : Nat) (x : Int32) (hj : j < 33) (hn : n < 2048) : Met l yn_Tr_append (Cond.code yn_Tr_append bc_Tr_append 3 none :: kx_all) ({ frames := 0, cells := 0, slots := 0, locals := 0 } : Room) (kp [.ref o, .int (nI j), .int x] D cI cZ [tr_c o qa qb qd n mk ck, ar_n cI qa 33 ft, ar_n cI qb 33 fc, ar_i cI qd 2048 fr] sz) (kw_q none D kc_l [tr_c o qa qb qd (n + 1) mk ck, ar_n cI qa 33 ft, ar_n cI qb 33 (va_up fc j (fc j + 1)), ar_i cI qd 2048 (upd fr n x)] (va_A [tr_c o qa qb qd n mk ck, ar_n cI qa 33 ft, ar_n cI qb 33 fc, ar_i cI qd 2048 fr] sz)) 0 0 (va_A [tr_c o qa qb qd n mk ck, ar_n cI qa 33 ft, ar_n cI qb 33 fc, ar_i cI qd 2048 fr] sz) := by
  refine kx_metW (by decide) (Nat.le_of_ble_eq_true rfl) ?_
  intro p e s m below meth c ls A hx hb hr hml hts hown hlocks hin hA hP hK hD hN hl hS
  have hown : s.vm.findClass rn_Tr = some m.cls := hown
  have hl : lv_has ls 3 [(0, .ref o), (1, .int (nI j)), (2, .int x)] := hl
  refine lv_aload_n hx hb dc_Tr_append_0 rfl (lv_at hl 0 rfl) ?_
  refine va_get (ci := 5) (v := .int (nI n)) (C := rn_Tr) (T := fd_Tr) (N := 6) hx hb hts in_Tr hown hK hP 0 rfl rfl 3 (by decide) (hts _ wd_138) (fun _ h9 => h9) rfl dc_Tr_append_1 ?_
  refine lv_aload_n hx hb dc_Tr_append_4 rfl (lv_at hl 0 rfl) ?_
  refine va_get (ci := 5) (v := .ref qd) (C := rn_Tr) (T := fd_Tr) (N := 6) hx hb hts in_Tr hown hK hP 0 rfl rfl 2 (by decide) (hts _ wd_137) (fun _ h9 => h9) rfl dc_Tr_append_5 ?_
  refine va_alen (v := nI 2048) hx hb hK hP 3 0 rfl rfl rfl dc_Tr_append_8 ?_
  refine kn_icmp_ge hx hb (by omega) (by omega) dc_Tr_append_9 rfl (fun hc9 => ?_) (fun hc9 => ?_)
  · exfalso; omega
  · refine lv_aload_n hx hb dc_Tr_append_12 rfl (lv_at hl 0 rfl) ?_
    refine va_get (ci := 5) (v := .ref qd) (C := rn_Tr) (T := fd_Tr) (N := 6) hx hb hts in_Tr hown hK hP 0 rfl rfl 2 (by decide) (hts _ wd_137) (fun _ h9 => h9) rfl dc_Tr_append_13 ?_
    refine lv_aload_n hx hb dc_Tr_append_16 rfl (lv_at hl 0 rfl) ?_
    refine va_get (ci := 5) (v := .int (nI n)) (C := rn_Tr) (T := fd_Tr) (N := 6) hx hb hts in_Tr hown hK hP 0 rfl rfl 3 (by decide) (hts _ wd_138) (fun _ h9 => h9) rfl dc_Tr_append_17 ?_
    refine lv_iload_n hx hb dc_Tr_append_20 rfl (lv_at hl 2 rfl) ?_
    refine ka_iast (f := fr) hx hb hK hP hD hS 3 0 rfl rfl (j := n) (by omega) (by omega) dc_Tr_append_21 (ws' := [tr_c o qa qb qd n mk ck, ar_n cI qa 33 ft, ar_n cI qb 33 fc, ar_i cI qd 2048 (upd fr n x)]) rfl (fun H locs hP hD hS => ?_)
    refine lv_aload_n hx hb dc_Tr_append_22 rfl (lv_at hl 0 rfl) ?_
    refine lv_dup hx hb dc_Tr_append_23 rfl ?_
    refine va_get (ci := 5) (v := .int (nI n)) (C := rn_Tr) (T := fd_Tr) (N := 6) hx hb hts in_Tr hown hK hP 0 rfl rfl 3 (by decide) (hts _ wd_138) (fun _ h9 => h9) rfl dc_Tr_append_24 ?_
    refine lv_iconst (v := nI 1) hx hb dc_Tr_append_27 (by decide +kernel) ?_
    refine kn_iadd hx hb dc_Tr_append_28 ?_
    refine va_put (ci := 5) (v := .int (nI (n + 1))) (ty := .int) (C := rn_Tr) (T := fd_Tr) (N := 6) hx hb hts in_Tr ty_Tr tk_Tr nm_Tr hown hK hP hD hS 0 rfl rfl 3 (by decide) (hts _ wd_138) (fun _ h9 => h9) rfl (by decide +kernel) rfl rfl (Nat.le_of_ble_eq_true rfl) dc_Tr_append_29 (fun H locs hP hD hS => ?_)
    have hP : va_P D kc_l [tr_c o qa qb qd (n + 1) mk ck, ar_n cI qa 33 ft, ar_n cI qb 33 fc, ar_i cI qd 2048 (upd fr n x)] H := hP
    have hD : va_D A [tr_c o qa qb qd (n + 1) mk ck, ar_n cI qa 33 ft, ar_n cI qb 33 fc, ar_i cI qd 2048 (upd fr n x)] := hD
    refine lv_aload_n hx hb dc_Tr_append_32 rfl (lv_at hl 0 rfl) ?_
    refine va_get (ci := 5) (v := .ref qb) (C := rn_Tr) (T := fd_Tr) (N := 6) hx hb hts in_Tr hown hK hP 0 rfl rfl 1 (by decide) (hts _ wd_136) (fun _ h9 => h9) rfl dc_Tr_append_33 ?_
    refine lv_iload_n hx hb dc_Tr_append_36 rfl (lv_at hl 1 rfl) ?_
    refine lv_dup2_11 hx hb dc_Tr_append_37 rfl rfl ?_
    refine ka_nald (t := fc) hx hb hK hP 2 0 rfl rfl (j := j) (by omega) (by omega) dc_Tr_append_38 ?_
    refine lv_iconst (v := nI 1) hx hb dc_Tr_append_39 (by decide +kernel) ?_
    refine kn_iadd hx hb dc_Tr_append_40 ?_
    refine ka_nast (t := fc) hx hb hK hP hD hS 2 0 rfl rfl (j := j) (by omega) (by omega) dc_Tr_append_41 (ws' := [tr_c o qa qb qd (n + 1) mk ck, ar_n cI qa 33 ft, ar_n cI qb 33 (va_up fc j ((fc j) + 1)), ar_i cI qd 2048 (upd fr n x)]) rfl (fun H locs hP hD hS => ?_)
    exact kw_vret hx hb hr hlocks hP hD hS dc_Tr_append_42 (rfl)

set_option maxHeartbeats 4000000 in
set_option maxRecDepth 100000 in
theorem ct_Tr_countOf (l : Launch) (D : va_G) (cI cZ : ClassId) (sz : Nat) (o : Nat) (qa : Nat) (qb : Nat) (qd : Nat) (n : Nat) (mk : Nat) (ck : Bool) (ft : Nat → Nat) (fc : Nat → Nat) (fr : Nat → Int32) (j : Nat) (hj : j < 2 ^ 31) : Met l yn_Tr_countOf (Cond.code yn_Tr_countOf bc_Tr_countOf 2 (some .int) :: kx_all) ({ frames := 0, cells := 0, slots := 0, locals := 0 } : Room) (kp [.ref o, .int (nI j)] D cI cZ [tr_c o qa qb qd n mk ck, ar_n cI qa 33 ft, ar_n cI qb 33 fc, ar_i cI qd 2048 fr] sz) (kr_q (some (.int (nI (pt_hc fc j))))) 0 0 (fun _ => False) := by
  refine kx_met (by decide) (Nat.le_of_ble_eq_true rfl) ?_
  intro p e s m below meth c ls hx hb hr hml hts hown hlocks hin hsz hP hK hD hN hl
  have hown : s.vm.findClass rn_Tr = some m.cls := hown
  have hl : lv_has ls 2 [(0, .ref o), (1, .int (nI j))] := hl
  refine lv_iload_n hx hb dc_Tr_countOf_0 rfl (lv_at hl 1 rfl) ?_
  refine lv_iconst (v := nI 1) hx hb dc_Tr_countOf_1 (by decide +kernel) ?_
  refine kn_icmp_lt hx hb (by omega) (by omega) dc_Tr_countOf_2 rfl (fun hc2 => ?_) (fun hc2 => ?_)
  · refine lv_iconst (v := nI 0) hx hb dc_Tr_countOf_20 (by decide +kernel) ?_
    exact kr_iret hx hb hr hlocks dc_Tr_countOf_21 (by rw [pt_hc, if_neg (by omega)])
  · refine lv_iload_n hx hb dc_Tr_countOf_5 rfl (lv_at hl 1 rfl) ?_
    refine lv_bipush (v := nI 32) hx hb dc_Tr_countOf_6 (by decide +kernel) ?_
    refine kn_icmp_gt hx hb (by omega) (by omega) dc_Tr_countOf_8 rfl (fun hc8 => ?_) (fun hc8 => ?_)
    · refine lv_iconst (v := nI 0) hx hb dc_Tr_countOf_20 (by decide +kernel) ?_
      exact kr_iret hx hb hr hlocks dc_Tr_countOf_21 (by rw [pt_hc, if_neg (by omega)])
    · refine lv_aload_n hx hb dc_Tr_countOf_11 rfl (lv_at hl 0 rfl) ?_
      refine va_get (ci := 5) (v := .ref qb) (C := rn_Tr) (T := fd_Tr) (N := 6) hx hb hts in_Tr hown hK hP 0 rfl rfl 1 (by decide) (hts _ wd_136) (fun _ h9 => h9) rfl dc_Tr_countOf_12 ?_
      refine lv_iload_n hx hb dc_Tr_countOf_15 rfl (lv_at hl 1 rfl) ?_
      refine ka_nald (t := fc) hx hb hK hP 2 0 rfl rfl (j := j) (by omega) (by omega) dc_Tr_countOf_16 ?_
      refine lv_goto hx hb dc_Tr_countOf_17 rfl ?_
      exact kr_iret hx hb hr hlocks dc_Tr_countOf_21 (by rw [pt_hc, if_pos ⟨by omega, by omega⟩])

set_option maxHeartbeats 4000000 in
set_option maxRecDepth 100000 in
theorem ct_Tr_countOf_neg (l : Launch) (D : va_G) (cI cZ : ClassId) (sz : Nat) (o : Nat) (qa : Nat) (qb : Nat) (qd : Nat) (n : Nat) (mk : Nat) (ck : Bool) (i : Int32) (hi : i < 0) : Met l yn_Tr_countOf (Cond.code yn_Tr_countOf bc_Tr_countOf 2 (some .int) :: kx_all) ({ frames := 0, cells := 0, slots := 0, locals := 0 } : Room) (kp [.ref o, .int i] D cI cZ [tr_c o qa qb qd n mk ck] sz) (kr_q (some (.int (nI 0)))) 0 0 (fun _ => False) := by
  refine kx_met (by decide) (Nat.le_of_ble_eq_true rfl) ?_
  intro p e s m below meth c ls hx hb hr hml hts hown hlocks hin hsz hP hK hD hN hl
  have hown : s.vm.findClass rn_Tr = some m.cls := hown
  have hl : lv_has ls 2 [(0, .ref o), (1, .int i)] := hl
  refine lv_iload_n hx hb dc_Tr_countOf_0 rfl (lv_at hl 1 rfl) ?_
  refine lv_iconst (v := nI 1) hx hb dc_Tr_countOf_1 (by decide +kernel) ?_
  refine lv_icmp_lt hx hb dc_Tr_countOf_2 rfl (fun hc2 => ?_) (fun hc2 => ?_)
  · refine lv_iconst (v := nI 0) hx hb dc_Tr_countOf_20 (by decide +kernel) ?_
    exact kr_iret hx hb hr hlocks dc_Tr_countOf_21 (rfl)
  · exact absurd (ni_lt1 hi 1 (by decide)) hc2

set_option maxHeartbeats 4000000 in
set_option maxRecDepth 100000 in
theorem ct_Tr_hintAt (l : Launch) (D : va_G) (cI cZ : ClassId) (sz : Nat) (o : Nat) (qa : Nat) (qb : Nat) (qd : Nat) (n : Nat) (mk : Nat) (ck : Bool) (ft : Nat → Nat) (fc : Nat → Nat) (fr : Nat → Int32) (j : Nat) (k : Nat) (hb0 : ∀ j, 1 ≤ j → j ≤ 32 → ft j + fc j ≤ 2048) (hj : j < 2 ^ 31) (hk : k < 2 ^ 31) : Met l yn_Tr_hintAt (Cond.code yn_Tr_hintAt bc_Tr_hintAt 3 (some .int) :: kx_all) ({ frames := 1, cells := 0, slots := 0, locals := 21 } : Room) (kp [.ref o, .int (nI j), .int (nI k)] D cI cZ [tr_c o qa qb qd n mk ck, ar_n cI qa 33 ft, ar_n cI qb 33 fc, ar_i cI qd 2048 fr] sz) (kr_q (some (.int (pt_hv ft fc fr j k)))) 0 0 (fun _ => False) := by
  refine kx_met (by decide) (Nat.le_of_ble_eq_true rfl) ?_
  intro p e s m below meth c ls hx hb hr hml hts hown hlocks hin hsz hP hK hD hN hl
  have hown : s.vm.findClass rn_Tr = some m.cls := hown
  have hl : lv_has ls 3 [(0, .ref o), (1, .int (nI j)), (2, .int (nI k))] := hl
  have hcb : pt_hc fc j < 2 ^ 31 := by
    unfold pt_hc
    split
    · have := hb0 j (by omega) (by omega); omega
    · decide
  refine lv_iload_n hx hb dc_Tr_hintAt_0 rfl (lv_at hl 2 rfl) ?_
  refine lv_if_lt hx hb dc_Tr_hintAt_1 rfl (fun hc1 => ?_) (fun hc1 => ?_)
  · exact absurd hc1 (nI_pos (by omega))
  · refine lv_iload_n hx hb dc_Tr_hintAt_4 rfl (lv_at hl 2 rfl) ?_
    refine lv_aload_n hx hb dc_Tr_hintAt_5 rfl (lv_at hl 0 rfl) ?_
    refine lv_iload_n hx hb dc_Tr_hintAt_6 rfl (lv_at hl 1 rfl) ?_
    refine kr_call1 (va_runV (As := [.int (nI j)]) (rest := [.int (nI k)]) ⟨hx, hb, hml, hown, hts⟩ (ct_Tr_countOf l D cI cZ _ o qa qb qd n mk ck ft fc fr j (by omega)) (cwV 1 hts (kx_gV wd_279 wd_268 wd_269 wd_7 wd_270) rfl rfl rfl ⟨rfl, yd_Tr_countOf⟩ ⟨Nat.le_of_ble_eq_true rfl, Nat.le_of_ble_eq_true rfl⟩) (kp_V (q0 := 0) (ci := 5) hP hD hK hN [0, 1, 2, 3] rfl rfl rfl rfl rfl) rfl rfl hl.1 rfl (lv_room (Nat.le_of_ble_eq_true rfl)) dc_Tr_hintAt_7 ⟨Nat.le_of_ble_eq_true rfl, Nat.le_of_ble_eq_true rfl⟩) ?_
    refine kn_icmp_ge hx hb (by omega) (hcb) dc_Tr_hintAt_10 rfl (fun hc10 => ?_) (fun hc10 => ?_)
    · refine lv_iconst (v := nI 0) hx hb dc_Tr_hintAt_29 (by decide +kernel) ?_
      exact kr_iret hx hb hr hlocks dc_Tr_hintAt_30 (by rw [pt_hv, if_neg (by omega)]; rfl)
    · obtain ⟨hj1, hj2, hk1⟩ := hc_in hc10
      have hbj := hb0 j hj1 hj2
      refine lv_aload_n hx hb dc_Tr_hintAt_13 rfl (lv_at hl 0 rfl) ?_
      refine va_get (ci := 5) (v := .ref qd) (C := rn_Tr) (T := fd_Tr) (N := 6) hx hb hts in_Tr hown hK hP 0 rfl rfl 2 (by decide) (hts _ wd_137) (fun _ h9 => h9) rfl dc_Tr_hintAt_14 ?_
      refine lv_aload_n hx hb dc_Tr_hintAt_17 rfl (lv_at hl 0 rfl) ?_
      refine va_get (ci := 5) (v := .ref qa) (C := rn_Tr) (T := fd_Tr) (N := 6) hx hb hts in_Tr hown hK hP 0 rfl rfl 0 (by decide) (hts _ wd_135) (fun _ h9 => h9) rfl dc_Tr_hintAt_18 ?_
      refine lv_iload_n hx hb dc_Tr_hintAt_21 rfl (lv_at hl 1 rfl) ?_
      refine ka_nald (t := ft) hx hb hK hP 1 0 rfl rfl (j := j) (by omega) (by omega) dc_Tr_hintAt_22 ?_
      refine lv_iload_n hx hb dc_Tr_hintAt_23 rfl (lv_at hl 2 rfl) ?_
      refine kn_iadd hx hb dc_Tr_hintAt_24 ?_
      refine ka_iald (f := fr) hx hb hK hP 3 0 rfl rfl (j := (ft j) + k) (by omega) (by omega) dc_Tr_hintAt_25 ?_
      refine lv_goto hx hb dc_Tr_hintAt_26 rfl ?_
      exact kr_iret hx hb hr hlocks dc_Tr_hintAt_30 (by rw [pt_hv, if_pos hc10])

set_option maxHeartbeats 4000000 in
set_option maxRecDepth 100000 in
theorem ct_Tr_hintAt_k (l : Launch) (D : va_G) (cI cZ : ClassId) (sz : Nat) (o : Nat) (qa : Nat) (qb : Nat) (qd : Nat) (n : Nat) (mk : Nat) (ck : Bool) (x : Int32) (i : Int32) (hi : i < 0) : Met l yn_Tr_hintAt (Cond.code yn_Tr_hintAt bc_Tr_hintAt 3 (some .int) :: kx_all) ({ frames := 0, cells := 0, slots := 0, locals := 0 } : Room) (kp [.ref o, .int x, .int i] D cI cZ [tr_c o qa qb qd n mk ck] sz) (kr_q (some (.int (nI 0)))) 0 0 (fun _ => False) := by
  refine kx_met (by decide) (Nat.le_of_ble_eq_true rfl) ?_
  intro p e s m below meth c ls hx hb hr hml hts hown hlocks hin hsz hP hK hD hN hl
  have hown : s.vm.findClass rn_Tr = some m.cls := hown
  have hl : lv_has ls 3 [(0, .ref o), (1, .int x), (2, .int i)] := hl
  refine lv_iload_n hx hb dc_Tr_hintAt_0 rfl (lv_at hl 2 rfl) ?_
  refine lv_if_lt hx hb dc_Tr_hintAt_1 rfl (fun hc1 => ?_) (fun hc1 => ?_)
  · refine lv_iconst (v := nI 0) hx hb dc_Tr_hintAt_29 (by decide +kernel) ?_
    exact kr_iret hx hb hr hlocks dc_Tr_hintAt_30 (rfl)
  · exact absurd hi hc1

set_option maxHeartbeats 4000000 in
set_option maxRecDepth 100000 in
theorem ct_Tr_hintAt_neg (l : Launch) (D : va_G) (cI cZ : ClassId) (sz : Nat) (o : Nat) (qa : Nat) (qb : Nat) (qd : Nat) (n : Nat) (mk : Nat) (ck : Bool) (i : Int32) (k : Nat) (hi : i < 0) (hk : k < 2 ^ 31) : Met l yn_Tr_hintAt (Cond.code yn_Tr_hintAt bc_Tr_hintAt 3 (some .int) :: kx_all) ({ frames := 1, cells := 0, slots := 0, locals := 21 } : Room) (kp [.ref o, .int i, .int (nI k)] D cI cZ [tr_c o qa qb qd n mk ck] sz) (kr_q (some (.int (nI 0)))) 0 0 (fun _ => False) := by
  refine kx_met (by decide) (Nat.le_of_ble_eq_true rfl) ?_
  intro p e s m below meth c ls hx hb hr hml hts hown hlocks hin hsz hP hK hD hN hl
  have hown : s.vm.findClass rn_Tr = some m.cls := hown
  have hl : lv_has ls 3 [(0, .ref o), (1, .int i), (2, .int (nI k))] := hl
  refine lv_iload_n hx hb dc_Tr_hintAt_0 rfl (lv_at hl 2 rfl) ?_
  refine lv_if_lt hx hb dc_Tr_hintAt_1 rfl (fun hc1 => ?_) (fun hc1 => ?_)
  · exact absurd hc1 (nI_pos (by omega))
  · refine lv_iload_n hx hb dc_Tr_hintAt_4 rfl (lv_at hl 2 rfl) ?_
    refine lv_aload_n hx hb dc_Tr_hintAt_5 rfl (lv_at hl 0 rfl) ?_
    refine lv_iload_n hx hb dc_Tr_hintAt_6 rfl (lv_at hl 1 rfl) ?_
    refine kr_call1 (va_runV (As := [.int i]) (rest := [.int (nI k)]) ⟨hx, hb, hml, hown, hts⟩ (ct_Tr_countOf_neg l D cI cZ _ o qa qb qd n mk ck i (by omega)) (cwV 1 hts (kx_gV wd_279 wd_268 wd_269 wd_7 wd_270) rfl rfl rfl ⟨rfl, yd_Tr_countOf⟩ ⟨Nat.le_of_ble_eq_true rfl, Nat.le_of_ble_eq_true rfl⟩) (kp_V (q0 := 0) (ci := 5) hP hD hK hN [0] rfl rfl rfl rfl rfl) rfl rfl hl.1 rfl (lv_room (Nat.le_of_ble_eq_true rfl)) dc_Tr_hintAt_7 ⟨Nat.le_of_ble_eq_true rfl, Nat.le_of_ble_eq_true rfl⟩) ?_
    refine kn_icmp_ge hx hb (by omega) (by omega) dc_Tr_hintAt_10 rfl (fun hc10 => ?_) (fun hc10 => ?_)
    · refine lv_iconst (v := nI 0) hx hb dc_Tr_hintAt_29 (by decide +kernel) ?_
      exact kr_iret hx hb hr hlocks dc_Tr_hintAt_30 (rfl)
    · exfalso; omega

set_option maxHeartbeats 4000000 in
set_option maxRecDepth 100000 in
theorem ct_Tr_replace (l : Launch) (D : va_G) (cI cZ : ClassId) (sz : Nat) (o : Nat) (qa : Nat) (qb : Nat) (qd : Nat) (n : Nat) (mk : Nat) (ck : Bool) (ft : Nat → Nat) (fc : Nat → Nat) (fr : Nat → Int32) (j : Nat) (k : Nat) (x : Int32) (hb0 : ∀ j, 1 ≤ j → j ≤ 32 → ft j + fc j ≤ 2048) (hj : j < 2 ^ 31) (hk : k < 2 ^ 31) (hin0 : k < pt_hc fc j) : Met l yn_Tr_replace (Cond.code yn_Tr_replace bc_Tr_replace 4 (some .boolean) :: kx_all) ({ frames := 1, cells := 0, slots := 0, locals := 21 } : Room) (kp [.ref o, .int (nI j), .int (nI k), .int x] D cI cZ [tr_c o qa qb qd n mk ck, ar_n cI qa 33 ft, ar_n cI qb 33 fc, ar_i cI qd 2048 fr] sz) (kw_q (some (.int (kb_i true))) D kc_l [tr_c o qa qb qd n mk ck, ar_n cI qa 33 ft, ar_n cI qb 33 fc, ar_i cI qd 2048 (upd fr (ft j + k) x)] (va_A [tr_c o qa qb qd n mk ck, ar_n cI qa 33 ft, ar_n cI qb 33 fc, ar_i cI qd 2048 fr] sz)) 0 0 (va_A [tr_c o qa qb qd n mk ck, ar_n cI qa 33 ft, ar_n cI qb 33 fc, ar_i cI qd 2048 fr] sz) := by
  refine kx_metW (by decide) (Nat.le_of_ble_eq_true rfl) ?_
  intro p e s m below meth c ls A hx hb hr hml hts hown hlocks hin hA hP hK hD hN hl hS
  have hown : s.vm.findClass rn_Tr = some m.cls := hown
  have hl : lv_has ls 4 [(0, .ref o), (1, .int (nI j)), (2, .int (nI k)), (3, .int x)] := hl
  have hcb : pt_hc fc j < 2 ^ 31 := by
    unfold pt_hc
    split
    · have := hb0 j (by omega) (by omega); omega
    · decide
  refine lv_iload_n hx hb dc_Tr_replace_0 rfl (lv_at hl 2 rfl) ?_
  refine lv_if_lt hx hb dc_Tr_replace_1 rfl (fun hc1 => ?_) (fun hc1 => ?_)
  · exact absurd hc1 (nI_pos (by omega))
  · refine lv_iload_n hx hb dc_Tr_replace_4 rfl (lv_at hl 2 rfl) ?_
    refine lv_aload_n hx hb dc_Tr_replace_5 rfl (lv_at hl 0 rfl) ?_
    refine lv_iload_n hx hb dc_Tr_replace_6 rfl (lv_at hl 1 rfl) ?_
    refine kr_call1 (va_runV (As := [.int (nI j)]) (rest := [.int (nI k)]) ⟨hx, hb, hml, hown, hts⟩ (ct_Tr_countOf l D cI cZ _ o qa qb qd n mk ck ft fc fr j (by omega)) (cwV 1 hts (kx_gV wd_279 wd_268 wd_269 wd_7 wd_270) rfl rfl rfl ⟨rfl, yd_Tr_countOf⟩ ⟨Nat.le_of_ble_eq_true rfl, Nat.le_of_ble_eq_true rfl⟩) (kp_V (q0 := 0) (ci := 5) hP hD hK hN [0, 1, 2, 3] rfl rfl rfl rfl rfl) rfl rfl hl.1 rfl (lv_room (Nat.le_of_ble_eq_true rfl)) dc_Tr_replace_7 ⟨Nat.le_of_ble_eq_true rfl, Nat.le_of_ble_eq_true rfl⟩) ?_
    refine kn_icmp_lt hx hb (by omega) (hcb) dc_Tr_replace_10 rfl (fun hc10 => ?_) (fun hc10 => ?_)
    · obtain ⟨hj1, hj2, hk1⟩ := hc_in hc10
      have hbj := hb0 j hj1 hj2
      refine lv_aload_n hx hb dc_Tr_replace_15 rfl (lv_at hl 0 rfl) ?_
      refine va_get (ci := 5) (v := .ref qd) (C := rn_Tr) (T := fd_Tr) (N := 6) hx hb hts in_Tr hown hK hP 0 rfl rfl 2 (by decide) (hts _ wd_137) (fun _ h9 => h9) rfl dc_Tr_replace_16 ?_
      refine lv_aload_n hx hb dc_Tr_replace_19 rfl (lv_at hl 0 rfl) ?_
      refine va_get (ci := 5) (v := .ref qa) (C := rn_Tr) (T := fd_Tr) (N := 6) hx hb hts in_Tr hown hK hP 0 rfl rfl 0 (by decide) (hts _ wd_135) (fun _ h9 => h9) rfl dc_Tr_replace_20 ?_
      refine lv_iload_n hx hb dc_Tr_replace_23 rfl (lv_at hl 1 rfl) ?_
      refine ka_nald (t := ft) hx hb hK hP 1 0 rfl rfl (j := j) (by omega) (by omega) dc_Tr_replace_24 ?_
      refine lv_iload_n hx hb dc_Tr_replace_25 rfl (lv_at hl 2 rfl) ?_
      refine kn_iadd hx hb dc_Tr_replace_26 ?_
      refine lv_iload_n hx hb dc_Tr_replace_27 rfl (lv_at hl 3 rfl) ?_
      refine ka_iast (f := fr) hx hb hK hP hD hS 3 0 rfl rfl (j := (ft j) + k) (by omega) (by omega) dc_Tr_replace_28 (ws' := [tr_c o qa qb qd n mk ck, ar_n cI qa 33 ft, ar_n cI qb 33 fc, ar_i cI qd 2048 (upd fr ((ft j) + k) x)]) rfl (fun H locs hP hD hS => ?_)
      refine lv_iconst (v := nI 1) hx hb dc_Tr_replace_29 (by decide +kernel) ?_
      refine kn_top (y := kb_i true) (by decide +kernel) ?_
      exact kw_zret hx hb hr hlocks hP hD hS dc_Tr_replace_30 (rfl) (rfl)
    · exfalso; omega

set_option maxHeartbeats 4000000 in
set_option maxRecDepth 100000 in
theorem ct_Tr_replace_no (l : Launch) (D : va_G) (cI cZ : ClassId) (sz : Nat) (o : Nat) (qa : Nat) (qb : Nat) (qd : Nat) (n : Nat) (mk : Nat) (ck : Bool) (ft : Nat → Nat) (fc : Nat → Nat) (fr : Nat → Int32) (j : Nat) (k : Nat) (x : Int32) (hb0 : ∀ j, 1 ≤ j → j ≤ 32 → ft j + fc j ≤ 2048) (hj : j < 2 ^ 31) (hk : k < 2 ^ 31) (hin0 : pt_hc fc j ≤ k) : Met l yn_Tr_replace (Cond.code yn_Tr_replace bc_Tr_replace 4 (some .boolean) :: kx_all) ({ frames := 1, cells := 0, slots := 0, locals := 21 } : Room) (kp [.ref o, .int (nI j), .int (nI k), .int x] D cI cZ [tr_c o qa qb qd n mk ck, ar_n cI qa 33 ft, ar_n cI qb 33 fc, ar_i cI qd 2048 fr] sz) (kr_q (some (.int (kb_i false)))) 0 0 (fun _ => False) := by
  refine kx_met (by decide) (Nat.le_of_ble_eq_true rfl) ?_
  intro p e s m below meth c ls hx hb hr hml hts hown hlocks hin hsz hP hK hD hN hl
  have hown : s.vm.findClass rn_Tr = some m.cls := hown
  have hl : lv_has ls 4 [(0, .ref o), (1, .int (nI j)), (2, .int (nI k)), (3, .int x)] := hl
  have hcb : pt_hc fc j < 2 ^ 31 := by
    unfold pt_hc
    split
    · have := hb0 j (by omega) (by omega); omega
    · decide
  refine lv_iload_n hx hb dc_Tr_replace_0 rfl (lv_at hl 2 rfl) ?_
  refine lv_if_lt hx hb dc_Tr_replace_1 rfl (fun hc1 => ?_) (fun hc1 => ?_)
  · exact absurd hc1 (nI_pos (by omega))
  · refine lv_iload_n hx hb dc_Tr_replace_4 rfl (lv_at hl 2 rfl) ?_
    refine lv_aload_n hx hb dc_Tr_replace_5 rfl (lv_at hl 0 rfl) ?_
    refine lv_iload_n hx hb dc_Tr_replace_6 rfl (lv_at hl 1 rfl) ?_
    refine kr_call1 (va_runV (As := [.int (nI j)]) (rest := [.int (nI k)]) ⟨hx, hb, hml, hown, hts⟩ (ct_Tr_countOf l D cI cZ _ o qa qb qd n mk ck ft fc fr j (by omega)) (cwV 1 hts (kx_gV wd_279 wd_268 wd_269 wd_7 wd_270) rfl rfl rfl ⟨rfl, yd_Tr_countOf⟩ ⟨Nat.le_of_ble_eq_true rfl, Nat.le_of_ble_eq_true rfl⟩) (kp_V (q0 := 0) (ci := 5) hP hD hK hN [0, 1, 2, 3] rfl rfl rfl rfl rfl) rfl rfl hl.1 rfl (lv_room (Nat.le_of_ble_eq_true rfl)) dc_Tr_replace_7 ⟨Nat.le_of_ble_eq_true rfl, Nat.le_of_ble_eq_true rfl⟩) ?_
    refine kn_icmp_lt hx hb (by omega) (hcb) dc_Tr_replace_10 rfl (fun hc10 => ?_) (fun hc10 => ?_)
    · exfalso; omega
    · refine lv_iconst (v := nI 0) hx hb dc_Tr_replace_13 (by decide +kernel) ?_
      refine kn_top (y := kb_i false) (by decide +kernel) ?_
      exact kr_zret hx hb hr hlocks dc_Tr_replace_14 (rfl)

set_option maxHeartbeats 4000000 in
set_option maxRecDepth 100000 in
theorem ct_Tr_replace_k (l : Launch) (D : va_G) (cI cZ : ClassId) (sz : Nat) (o : Nat) (qa : Nat) (qb : Nat) (qd : Nat) (n : Nat) (mk : Nat) (ck : Bool) (y : Int32) (i : Int32) (x : Int32) (hi : i < 0) : Met l yn_Tr_replace (Cond.code yn_Tr_replace bc_Tr_replace 4 (some .boolean) :: kx_all) ({ frames := 0, cells := 0, slots := 0, locals := 0 } : Room) (kp [.ref o, .int y, .int i, .int x] D cI cZ [tr_c o qa qb qd n mk ck] sz) (kr_q (some (.int (kb_i false)))) 0 0 (fun _ => False) := by
  refine kx_met (by decide) (Nat.le_of_ble_eq_true rfl) ?_
  intro p e s m below meth c ls hx hb hr hml hts hown hlocks hin hsz hP hK hD hN hl
  have hown : s.vm.findClass rn_Tr = some m.cls := hown
  have hl : lv_has ls 4 [(0, .ref o), (1, .int y), (2, .int i), (3, .int x)] := hl
  refine lv_iload_n hx hb dc_Tr_replace_0 rfl (lv_at hl 2 rfl) ?_
  refine lv_if_lt hx hb dc_Tr_replace_1 rfl (fun hc1 => ?_) (fun hc1 => ?_)
  · refine lv_iconst (v := nI 0) hx hb dc_Tr_replace_13 (by decide +kernel) ?_
    refine kn_top (y := kb_i false) (by decide +kernel) ?_
    exact kr_zret hx hb hr hlocks dc_Tr_replace_14 (rfl)
  · exact absurd hi hc1

set_option maxHeartbeats 4000000 in
set_option maxRecDepth 100000 in
theorem ct_Tr_replace_neg (l : Launch) (D : va_G) (cI cZ : ClassId) (sz : Nat) (o : Nat) (qa : Nat) (qb : Nat) (qd : Nat) (n : Nat) (mk : Nat) (ck : Bool) (i : Int32) (k : Nat) (x : Int32) (hi : i < 0) (hk : k < 2 ^ 31) : Met l yn_Tr_replace (Cond.code yn_Tr_replace bc_Tr_replace 4 (some .boolean) :: kx_all) ({ frames := 1, cells := 0, slots := 0, locals := 21 } : Room) (kp [.ref o, .int i, .int (nI k), .int x] D cI cZ [tr_c o qa qb qd n mk ck] sz) (kr_q (some (.int (kb_i false)))) 0 0 (fun _ => False) := by
  refine kx_met (by decide) (Nat.le_of_ble_eq_true rfl) ?_
  intro p e s m below meth c ls hx hb hr hml hts hown hlocks hin hsz hP hK hD hN hl
  have hown : s.vm.findClass rn_Tr = some m.cls := hown
  have hl : lv_has ls 4 [(0, .ref o), (1, .int i), (2, .int (nI k)), (3, .int x)] := hl
  refine lv_iload_n hx hb dc_Tr_replace_0 rfl (lv_at hl 2 rfl) ?_
  refine lv_if_lt hx hb dc_Tr_replace_1 rfl (fun hc1 => ?_) (fun hc1 => ?_)
  · exact absurd hc1 (nI_pos (by omega))
  · refine lv_iload_n hx hb dc_Tr_replace_4 rfl (lv_at hl 2 rfl) ?_
    refine lv_aload_n hx hb dc_Tr_replace_5 rfl (lv_at hl 0 rfl) ?_
    refine lv_iload_n hx hb dc_Tr_replace_6 rfl (lv_at hl 1 rfl) ?_
    refine kr_call1 (va_runV (As := [.int i]) (rest := [.int (nI k)]) ⟨hx, hb, hml, hown, hts⟩ (ct_Tr_countOf_neg l D cI cZ _ o qa qb qd n mk ck i (by omega)) (cwV 1 hts (kx_gV wd_279 wd_268 wd_269 wd_7 wd_270) rfl rfl rfl ⟨rfl, yd_Tr_countOf⟩ ⟨Nat.le_of_ble_eq_true rfl, Nat.le_of_ble_eq_true rfl⟩) (kp_V (q0 := 0) (ci := 5) hP hD hK hN [0] rfl rfl rfl rfl rfl) rfl rfl hl.1 rfl (lv_room (Nat.le_of_ble_eq_true rfl)) dc_Tr_replace_7 ⟨Nat.le_of_ble_eq_true rfl, Nat.le_of_ble_eq_true rfl⟩) ?_
    refine kn_icmp_lt hx hb (by omega) (by omega) dc_Tr_replace_10 rfl (fun hc10 => ?_) (fun hc10 => ?_)
    · exfalso; omega
    · refine lv_iconst (v := nI 0) hx hb dc_Tr_replace_13 (by decide +kernel) ?_
      refine kn_top (y := kb_i false) (by decide +kernel) ?_
      exact kr_zret hx hb hr hlocks dc_Tr_replace_14 (rfl)
