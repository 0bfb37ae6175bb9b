/-! the class: what is asked -/
theorem dc_Pt_type_0 : decode bc_Pt_type 0 = .ok (.iload_n 3, 1) := by decide +kernel
theorem dc_Pt_type_1 : decode bc_Pt_type 1 = .ok (.iconst 1, 1) := by decide +kernel
theorem dc_Pt_type_2 : decode bc_Pt_type 2 = .ok (.if_icmp .lt (24), 3) := by decide +kernel
theorem dc_Pt_type_5 : decode bc_Pt_type 5 = .ok (.iload_n 3, 1) := by decide +kernel
theorem dc_Pt_type_6 : decode bc_Pt_type 6 = .ok (.bipush (8), 2) := by decide +kernel
theorem dc_Pt_type_8 : decode bc_Pt_type 8 = .ok (.if_icmp .gt (18), 3) := by decide +kernel
theorem dc_Pt_type_11 : decode bc_Pt_type 11 = .ok (.aload_n 0, 1) := by decide +kernel
theorem dc_Pt_type_12 : decode bc_Pt_type 12 = .ok (.getfield 14, 3) := by decide +kernel
theorem dc_Pt_type_15 : decode bc_Pt_type 15 = .ok (.getfield 56, 3) := by decide +kernel
theorem dc_Pt_type_18 : decode bc_Pt_type 18 = .ok (.iload_n 3, 1) := by decide +kernel
theorem dc_Pt_type_19 : decode bc_Pt_type 19 = .ok (.iadd, 1) := by decide +kernel
theorem dc_Pt_type_20 : decode bc_Pt_type 20 = .ok (.sipush (250), 3) := by decide +kernel
theorem dc_Pt_type_23 : decode bc_Pt_type 23 = .ok (.if_icmp .le (7), 3) := by decide +kernel
theorem dc_Pt_type_26 : decode bc_Pt_type 26 = .ok (.sipush (-1000), 3) := by decide +kernel
theorem dc_Pt_type_29 : decode bc_Pt_type 29 = .ok (.ireturn, 1) := by decide +kernel
theorem dc_Pt_type_30 : decode bc_Pt_type 30 = .ok (.iload_n 3, 1) := by decide +kernel
theorem dc_Pt_type_31 : decode bc_Pt_type 31 = .ok (.iconst 1, 1) := by decide +kernel
theorem dc_Pt_type_32 : decode bc_Pt_type 32 = .ok (.isub, 1) := by decide +kernel
theorem dc_Pt_type_33 : decode bc_Pt_type 33 = .ok (.istore 4, 2) := by decide +kernel
theorem dc_Pt_type_35 : decode bc_Pt_type 35 = .ok (.iload 4, 2) := by decide +kernel
theorem dc_Pt_type_37 : decode bc_Pt_type 37 = .ok (.ifCond .lt (28), 3) := by decide +kernel
theorem dc_Pt_type_40 : decode bc_Pt_type 40 = .ok (.aload_n 0, 1) := by decide +kernel
theorem dc_Pt_type_41 : decode bc_Pt_type 41 = .ok (.getfield 14, 3) := by decide +kernel
theorem dc_Pt_type_44 : decode bc_Pt_type 44 = .ok (.lload_n 1, 1) := by decide +kernel
theorem dc_Pt_type_45 : decode bc_Pt_type 45 = .ok (.bipush (8), 2) := by decide +kernel
theorem dc_Pt_type_47 : decode bc_Pt_type 47 = .ok (.iload 4, 2) := by decide +kernel
theorem dc_Pt_type_49 : decode bc_Pt_type 49 = .ok (.imul, 1) := by decide +kernel
theorem dc_Pt_type_50 : decode bc_Pt_type 50 = .ok (.lushr, 1) := by decide +kernel
theorem dc_Pt_type_51 : decode bc_Pt_type 51 = .ok (.l2i, 1) := by decide +kernel
theorem dc_Pt_type_52 : decode bc_Pt_type 52 = .ok (.sipush (255), 3) := by decide +kernel
theorem dc_Pt_type_55 : decode bc_Pt_type 55 = .ok (.iand, 1) := by decide +kernel
theorem dc_Pt_type_56 : decode bc_Pt_type 56 = .ok (.invokevirtual 60, 3) := by decide +kernel
theorem dc_Pt_type_59 : decode bc_Pt_type 59 = .ok (.iinc 4 (-1), 3) := by decide +kernel
theorem dc_Pt_type_62 : decode bc_Pt_type 62 = .ok (.goto (-27), 3) := by decide +kernel
theorem dc_Pt_type_65 : decode bc_Pt_type 65 = .ok (.aload_n 0, 1) := by decide +kernel
theorem dc_Pt_type_66 : decode bc_Pt_type 66 = .ok (.getfield 14, 3) := by decide +kernel
theorem dc_Pt_type_69 : decode bc_Pt_type 69 = .ok (.getfield 56, 3) := by decide +kernel
theorem dc_Pt_type_72 : decode bc_Pt_type 72 = .ok (.ireturn, 1) := by decide +kernel
theorem dc_Pt_wipe_0 : decode bc_Pt_wipe 0 = .ok (.aload_n 0, 1) := by decide +kernel
theorem dc_Pt_wipe_1 : decode bc_Pt_wipe 1 = .ok (.getfield 14, 3) := by decide +kernel
theorem dc_Pt_wipe_4 : decode bc_Pt_wipe 4 = .ok (.getfield 56, 3) := by decide +kernel
theorem dc_Pt_wipe_7 : decode bc_Pt_wipe 7 = .ok (.istore_n 1, 1) := by decide +kernel
theorem dc_Pt_wipe_8 : decode bc_Pt_wipe 8 = .ok (.aload_n 0, 1) := by decide +kernel
theorem dc_Pt_wipe_9 : decode bc_Pt_wipe 9 = .ok (.getfield 14, 3) := by decide +kernel
theorem dc_Pt_wipe_12 : decode bc_Pt_wipe 12 = .ok (.invokevirtual 63, 3) := by decide +kernel
theorem dc_Pt_wipe_15 : decode bc_Pt_wipe 15 = .ok (.iload_n 1, 1) := by decide +kernel
theorem dc_Pt_wipe_16 : decode bc_Pt_wipe 16 = .ok (.ireturn, 1) := by decide +kernel
theorem dc_Pt_clauses_0 : decode bc_Pt_clauses 0 = .ok (.aload_n 0, 1) := by decide +kernel
theorem dc_Pt_clauses_1 : decode bc_Pt_clauses 1 = .ok (.getfield 31, 3) := by decide +kernel
theorem dc_Pt_clauses_4 : decode bc_Pt_clauses 4 = .ok (.getfield 88, 3) := by decide +kernel
theorem dc_Pt_clauses_7 : decode bc_Pt_clauses 7 = .ok (.ireturn, 1) := by decide +kernel
theorem dc_Pt_size_0 : decode bc_Pt_size 0 = .ok (.aload_n 0, 1) := by decide +kernel
theorem dc_Pt_size_1 : decode bc_Pt_size 1 = .ok (.getfield 31, 3) := by decide +kernel
theorem dc_Pt_size_4 : decode bc_Pt_size 4 = .ok (.iload_n 1, 1) := by decide +kernel
theorem dc_Pt_size_5 : decode bc_Pt_size 5 = .ok (.invokevirtual 160, 3) := by decide +kernel
theorem dc_Pt_size_8 : decode bc_Pt_size 8 = .ok (.ifCond .eq (15), 3) := by decide +kernel
theorem dc_Pt_size_11 : decode bc_Pt_size 11 = .ok (.aload_n 0, 1) := by decide +kernel
theorem dc_Pt_size_12 : decode bc_Pt_size 12 = .ok (.getfield 31, 3) := by decide +kernel
theorem dc_Pt_size_15 : decode bc_Pt_size 15 = .ok (.getfield 164, 3) := by decide +kernel
theorem dc_Pt_size_18 : decode bc_Pt_size 18 = .ok (.iload_n 1, 1) := by decide +kernel
theorem dc_Pt_size_19 : decode bc_Pt_size 19 = .ok (.iaload, 1) := by decide +kernel
theorem dc_Pt_size_20 : decode bc_Pt_size 20 = .ok (.goto (6), 3) := by decide +kernel
theorem dc_Pt_size_23 : decode bc_Pt_size 23 = .ok (.sipush (-1000), 3) := by decide +kernel
theorem dc_Pt_size_26 : decode bc_Pt_size 26 = .ok (.ireturn, 1) := by decide +kernel
theorem dc_Pt_literal_0 : decode bc_Pt_literal 0 = .ok (.aload_n 0, 1) := by decide +kernel
theorem dc_Pt_literal_1 : decode bc_Pt_literal 1 = .ok (.getfield 31, 3) := by decide +kernel
theorem dc_Pt_literal_4 : decode bc_Pt_literal 4 = .ok (.iload_n 1, 1) := by decide +kernel
theorem dc_Pt_literal_5 : decode bc_Pt_literal 5 = .ok (.iload_n 2, 1) := by decide +kernel
theorem dc_Pt_literal_6 : decode bc_Pt_literal 6 = .ok (.invokevirtual 168, 3) := by decide +kernel
theorem dc_Pt_literal_9 : decode bc_Pt_literal 9 = .ok (.ireturn, 1) := by decide +kernel
theorem dc_Pt_step_0 : decode bc_Pt_step 0 = .ok (.iload_n 1, 1) := by decide +kernel
theorem dc_Pt_step_1 : decode bc_Pt_step 1 = .ok (.iconst 1, 1) := by decide +kernel
theorem dc_Pt_step_2 : decode bc_Pt_step 2 = .ok (.if_icmp .lt (26), 3) := by decide +kernel
theorem dc_Pt_step_5 : decode bc_Pt_step 5 = .ok (.iload_n 1, 1) := by decide +kernel
theorem dc_Pt_step_6 : decode bc_Pt_step 6 = .ok (.aload_n 0, 1) := by decide +kernel
theorem dc_Pt_step_7 : decode bc_Pt_step 7 = .ok (.getfield 38, 3) := by decide +kernel
theorem dc_Pt_step_10 : decode bc_Pt_step 10 = .ok (.getfield 172, 3) := by decide +kernel
theorem dc_Pt_step_13 : decode bc_Pt_step 13 = .ok (.if_icmp .gt (15), 3) := by decide +kernel
theorem dc_Pt_step_16 : decode bc_Pt_step 16 = .ok (.aload_n 0, 1) := by decide +kernel
theorem dc_Pt_step_17 : decode bc_Pt_step 17 = .ok (.getfield 38, 3) := by decide +kernel
theorem dc_Pt_step_20 : decode bc_Pt_step 20 = .ok (.getfield 173, 3) := by decide +kernel
theorem dc_Pt_step_23 : decode bc_Pt_step 23 = .ok (.iload_n 1, 1) := by decide +kernel
theorem dc_Pt_step_24 : decode bc_Pt_step 24 = .ok (.iaload, 1) := by decide +kernel
theorem dc_Pt_step_25 : decode bc_Pt_step 25 = .ok (.goto (6), 3) := by decide +kernel
theorem dc_Pt_step_28 : decode bc_Pt_step 28 = .ok (.sipush (-1000), 3) := by decide +kernel
theorem dc_Pt_step_31 : decode bc_Pt_step 31 = .ok (.ireturn, 1) := by decide +kernel
theorem dc_Pt_marked_0 : decode bc_Pt_marked 0 = .ok (.aload_n 0, 1) := by decide +kernel
theorem dc_Pt_marked_1 : decode bc_Pt_marked 1 = .ok (.getfield 31, 3) := by decide +kernel
theorem dc_Pt_marked_4 : decode bc_Pt_marked 4 = .ok (.iload_n 1, 1) := by decide +kernel
theorem dc_Pt_marked_5 : decode bc_Pt_marked 5 = .ok (.invokevirtual 160, 3) := by decide +kernel
theorem dc_Pt_marked_8 : decode bc_Pt_marked 8 = .ok (.ifCond .eq (21), 3) := by decide +kernel
theorem dc_Pt_marked_11 : decode bc_Pt_marked 11 = .ok (.aload_n 0, 1) := by decide +kernel
theorem dc_Pt_marked_12 : decode bc_Pt_marked 12 = .ok (.getfield 45, 3) := by decide +kernel
theorem dc_Pt_marked_15 : decode bc_Pt_marked 15 = .ok (.getfield 144, 3) := by decide +kernel
theorem dc_Pt_marked_18 : decode bc_Pt_marked 18 = .ok (.iload_n 1, 1) := by decide +kernel
theorem dc_Pt_marked_19 : decode bc_Pt_marked 19 = .ok (.invokestatic 176, 3) := by decide +kernel
theorem dc_Pt_marked_22 : decode bc_Pt_marked 22 = .ok (.ifCond .eq (7), 3) := by decide +kernel
theorem dc_Pt_marked_25 : decode bc_Pt_marked 25 = .ok (.iconst 1, 1) := by decide +kernel
theorem dc_Pt_marked_26 : decode bc_Pt_marked 26 = .ok (.goto (4), 3) := by decide +kernel
theorem dc_Pt_marked_29 : decode bc_Pt_marked 29 = .ok (.iconst 0, 1) := by decide +kernel
theorem dc_Pt_marked_30 : decode bc_Pt_marked 30 = .ok (.ireturn, 1) := by decide +kernel
theorem dc_Pt_hints_0 : decode bc_Pt_hints 0 = .ok (.aload_n 0, 1) := by decide +kernel
theorem dc_Pt_hints_1 : decode bc_Pt_hints 1 = .ok (.getfield 45, 3) := by decide +kernel
theorem dc_Pt_hints_4 : decode bc_Pt_hints 4 = .ok (.iload_n 1, 1) := by decide +kernel
theorem dc_Pt_hints_5 : decode bc_Pt_hints 5 = .ok (.invokevirtual 180, 3) := by decide +kernel
theorem dc_Pt_hints_8 : decode bc_Pt_hints 8 = .ok (.ireturn, 1) := by decide +kernel
theorem dc_Pt_hint_0 : decode bc_Pt_hint 0 = .ok (.aload_n 0, 1) := by decide +kernel
theorem dc_Pt_hint_1 : decode bc_Pt_hint 1 = .ok (.getfield 45, 3) := by decide +kernel
theorem dc_Pt_hint_4 : decode bc_Pt_hint 4 = .ok (.iload_n 1, 1) := by decide +kernel
theorem dc_Pt_hint_5 : decode bc_Pt_hint 5 = .ok (.iload_n 2, 1) := by decide +kernel
theorem dc_Pt_hint_6 : decode bc_Pt_hint 6 = .ok (.invokevirtual 183, 3) := by decide +kernel
theorem dc_Pt_hint_9 : decode bc_Pt_hint 9 = .ok (.ireturn, 1) := by decide +kernel
theorem dc_Pt_poke_0 : decode bc_Pt_poke 0 = .ok (.aload_n 0, 1) := by decide +kernel
theorem dc_Pt_poke_1 : decode bc_Pt_poke 1 = .ok (.getfield 45, 3) := by decide +kernel
theorem dc_Pt_poke_4 : decode bc_Pt_poke 4 = .ok (.iload_n 1, 1) := by decide +kernel
theorem dc_Pt_poke_5 : decode bc_Pt_poke 5 = .ok (.iload_n 2, 1) := by decide +kernel
theorem dc_Pt_poke_6 : decode bc_Pt_poke 6 = .ok (.iload_n 3, 1) := by decide +kernel
theorem dc_Pt_poke_7 : decode bc_Pt_poke 7 = .ok (.invokevirtual 186, 3) := by decide +kernel
theorem dc_Pt_poke_10 : decode bc_Pt_poke 10 = .ok (.ireturn, 1) := by decide +kernel
theorem dc_Pt_written_0 : decode bc_Pt_written 0 = .ok (.aload_n 0, 1) := by decide +kernel
theorem dc_Pt_written_1 : decode bc_Pt_written 1 = .ok (.getfield 18, 3) := by decide +kernel
theorem dc_Pt_written_4 : decode bc_Pt_written 4 = .ok (.iload_n 1, 1) := by decide +kernel
theorem dc_Pt_written_5 : decode bc_Pt_written 5 = .ok (.invokevirtual 206, 3) := by decide +kernel
theorem dc_Pt_written_8 : decode bc_Pt_written 8 = .ok (.ireturn, 1) := by decide +kernel
set_option maxHeartbeats 4000000 in
set_option maxRecDepth 100000 in
theorem ct_Pt_clauses (l : Launch) (D : va_G) (cI cZ : ClassId) (sz : Nat) (o : Nat) (xt : Nat) (xo : Nat) (xd : Nat) (xc : Nat) (xs : Nat) (xr : Nat) (xa : Nat) (hf : Bool) (hp : Bool) (fb : Nat) (ca : Nat) (cb : Nat) (cd : Nat) (cn : Nat) (fz : Nat → Nat) (fs : Nat → Nat) (fl : Nat → Int32)  : Met l yn_Pt_clauses (Cond.code yn_Pt_clauses bc_Pt_clauses 1 (some .int) :: kx_all) ({ frames := 0, cells := 0, slots := 0, locals := 0 } : Room) (kp [.ref o] D cI cZ [pt_c o xt xo xd xc xs xr xa hf hp fb, cl_c xc ca cb cd cn, ar_n cI ca 33 fz, ar_n cI cb 33 fs, ar_i cI cd (33 * 8) fl] sz) (kr_q (some (.int (nI cn)))) 0 0 (fun _ => False) := by
  refine kx_met (by decide) (Nat.le_of_ble_eq_true rfl) ?_
  intro p e s m below meth c ls hx hb hr hml hts hown hlocks hin hsz hP hK hD hN hl
  have hown : s.vm.findClass rn_Pt = some m.cls := hown
  have hl : lv_has ls 1 [(0, .ref o)] := hl
  refine lv_aload_n hx hb dc_Pt_clauses_0 rfl (lv_at hl 0 rfl) ?_
  refine va_get (ci := 9) (v := .ref xc) (C := rn_Pt) (T := fd_Pt) (N := 10) hx hb hts in_Pt hown hK hP 0 rfl rfl 3 (by decide) (hts _ wd_187) (fun _ h9 => h9) rfl dc_Pt_clauses_1 ?_
  refine va_getN (ci := 2) (v := .int (nI cn)) (C := rn_Cl) (T := fd_Cl) (N := 4) hx hb hts in_Cl hown hK hP 1 rfl rfl 3 (by decide) (nf_77 hN) (fun _ h9 => h9) rfl dc_Pt_clauses_4 ?_
  exact kr_iret hx hb hr hlocks dc_Pt_clauses_7 (rfl)

set_option maxHeartbeats 4000000 in
set_option maxRecDepth 100000 in
theorem ct_Pt_wipe (l : Launch) (D : va_G) (cI cZ : ClassId) (sz : Nat) (o : Nat) (xt : Nat) (xo : Nat) (xd : Nat) (xc : Nat) (xs : Nat) (xr : Nat) (xa : Nat) (hf : Bool) (hp : Bool) (fb : Nat) (ta : Nat) (tn : Nat) (t : Nat → Nat)  : Met l yn_Pt_wipe (Cond.code yn_Pt_wipe bc_Pt_wipe 2 (some .int) :: kx_all) ({ frames := 1, cells := 0, slots := 0, locals := 20 } : Room) (kp [.ref o] D cI cZ [pt_c o xt xo xd xc xs xr xa hf hp fb, tx_c xt ta tn, ar_n cI ta 250 t] sz) (kw_q (some (.int (nI tn))) D kc_l [pt_c o xt xo xd xc xs xr xa hf hp fb, tx_c xt ta 0, ar_n cI ta 250 t] (va_A [pt_c o xt xo xd xc xs xr xa hf hp fb, tx_c xt ta tn, ar_n cI ta 250 t] sz)) 0 0 (va_A [pt_c o xt xo xd xc xs xr xa hf hp fb, tx_c xt ta tn, ar_n cI ta 250 t] sz) := by
  refine kx_metW (by decide) (Nat.le_of_ble_eq_true rfl) ?_
  intro p e s m below meth c ls A hx hb hr hml hts hown hlocks hin hA hP hK hD hN hl hS
  have hown : s.vm.findClass rn_Pt = some m.cls := hown
  have hl : lv_has ls 2 [(0, .ref o)] := hl
  refine lv_aload_n hx hb dc_Pt_wipe_0 rfl (lv_at hl 0 rfl) ?_
  refine va_get (ci := 9) (v := .ref xt) (C := rn_Pt) (T := fd_Pt) (N := 10) hx hb hts in_Pt hown hK hP 0 rfl rfl 0 (by decide) (hts _ wd_184) (fun _ h9 => h9) rfl dc_Pt_wipe_1 ?_
  refine va_getN (ci := 0) (v := .int (nI tn)) (C := rn_Tx) (T := fd_Tx) (N := 2) hx hb hts in_Tx hown hK hP 1 rfl rfl 1 (by decide) (nf_39 hN) (fun _ h9 => h9) rfl dc_Pt_wipe_4 ?_
  refine lv_istore_n (lv' := [(1, .int (nI tn)), (0, .ref o)]) hx hb dc_Pt_wipe_7 rfl hl (by decide) rfl (fun ls hl => ?_)
  refine lv_aload_n hx hb dc_Pt_wipe_8 rfl (lv_at hl 1 rfl) ?_
  refine va_get (ci := 9) (v := .ref xt) (C := rn_Pt) (T := fd_Pt) (N := 10) hx hb hts in_Pt hown hK hP 0 rfl rfl 0 (by decide) (hts _ wd_184) (fun _ h9 => h9) rfl dc_Pt_wipe_9 ?_
  refine kw_call0 (wr := [pt_c o xt xo xd xc xs xr xa hf hp fb, ar_n cI ta 250 t]) (ws' := [pt_c o xt xo xd xc xs xr xa hf hp fb, tx_c xt ta 0, ar_n cI ta 250 t]) (va_runV (As := []) (rest := []) ⟨hx, hb, hml, hown, hts⟩ (ct_Tx_clear l D cI cZ _ xt ta tn) (cwV 0 hts (kx_gV wd_227 wd_228 wd_229 wd_2 wd_230) rfl rfl rfl ⟨rfl, yd_Tx_clear⟩ ⟨Nat.le_of_ble_eq_true rfl, Nat.le_of_ble_eq_true rfl⟩) (kp_V (q0 := 1) (ci := 0) hP hD hK hN [1] rfl rfl rfl rfl rfl) rfl rfl hl.1 rfl (lv_room (Nat.le_of_ble_eq_true rfl)) dc_Pt_wipe_12 ⟨Nat.le_of_ble_eq_true rfl, Nat.le_of_ble_eq_true rfl⟩) hP hD hS hA [1] [0, 2] [0, 2, 1] rfl rfl rfl (by decide) rfl rfl (fun H locs hP hD hS => ?_)
  refine lv_iload_n hx hb dc_Pt_wipe_15 rfl (lv_at hl 0 rfl) ?_
  exact kw_iret hx hb hr hlocks hP hD hS dc_Pt_wipe_16 (rfl) (rfl)

set_option maxHeartbeats 4000000 in
set_option maxRecDepth 100000 in
theorem ct_Pt_size (l : Launch) (D : va_G) (cI cZ : ClassId) (sz : Nat) (o : Nat) (xt : Nat) (xo : Nat) (xd : Nat) (xc : Nat) (xs : Nat) (xr : Nat) (xa : Nat) (hf : Bool) (hp : Bool) (fb : Nat) (ca : Nat) (cb : Nat) (cd : Nat) (cn : Nat) (fz : Nat → Nat) (fs : Nat → Nat) (fl : Nat → Int32) (x : Int32) (hcn : cn ≤ 32) : Met l yn_Pt_size (Cond.code yn_Pt_size bc_Pt_size 2 (some .int) :: kx_all) ({ frames := 1, cells := 0, slots := 0, locals := 21 } : Room) (kp [.ref o, .int x] D cI cZ [pt_c o xt xo xd xc xs xr xa hf hp fb, cl_c xc ca cb cd cn, ar_n cI ca 33 fz, ar_n cI cb 33 fs, ar_i cI cd (33 * 8) fl] sz) (kr_q (some (.int (if 1 ≤ pt_num x ∧ pt_num x ≤ cn then nI (fz (pt_num x)) else (-1000))))) 0 0 (fun _ => False) := by
  refine kx_met (by decide) (Nat.le_of_ble_eq_true rfl) ?_
  intro p e s m below meth c ls hx hb hr hml hts hown hlocks hin hsz hP hK hD hN hl
  have hown : s.vm.findClass rn_Pt = some m.cls := hown
  have hl : lv_has ls 2 [(0, .ref o), (1, .int x)] := hl
  rcases num_or x with ⟨hix, hzx⟩ | ⟨jx, hjx, rfl, hzx⟩
  · refine lv_aload_n hx hb dc_Pt_size_0 rfl (lv_at hl 0 rfl) ?_
    refine va_get (ci := 9) (v := .ref xc) (C := rn_Pt) (T := fd_Pt) (N := 10) hx hb hts in_Pt hown hK hP 0 rfl rfl 3 (by decide) (hts _ wd_187) (fun _ h9 => h9) rfl dc_Pt_size_1 ?_
    refine lv_iload_n hx hb dc_Pt_size_4 rfl (lv_at hl 1 rfl) ?_
    refine kr_call1 (va_runV (As := [.int x]) (rest := []) ⟨hx, hb, hml, hown, hts⟩ (ct_Cl_has_neg l D cI cZ _ xc ca cb cd cn x (hix)) (cwV 1 hts (kx_gV wd_239 wd_240 wd_241 wd_4 wd_242) rfl rfl rfl ⟨rfl, yd_Cl_has⟩ ⟨Nat.le_of_ble_eq_true rfl, Nat.le_of_ble_eq_true rfl⟩) (kp_V (q0 := 1) (ci := 2) hP hD hK hN [1] rfl rfl rfl rfl rfl) rfl rfl hl.1 rfl (lv_room (Nat.le_of_ble_eq_true rfl)) dc_Pt_size_5 ⟨Nat.le_of_ble_eq_true rfl, Nat.le_of_ble_eq_true rfl⟩) ?_
    refine kb_if_eq hx hb dc_Pt_size_8 rfl (fun hc8 => ?_) (fun hc8 => ?_)
    · refine lv_sipush (v := (-1000)) hx hb dc_Pt_size_23 (by decide +kernel) ?_
      exact kr_iret hx hb hr hlocks dc_Pt_size_26 (by rw [hzx, if_neg (by omega)])
    · exact absurd hc8 (by decide)
  · refine lv_aload_n hx hb dc_Pt_size_0 rfl (lv_at hl 0 rfl) ?_
    refine va_get (ci := 9) (v := .ref xc) (C := rn_Pt) (T := fd_Pt) (N := 10) hx hb hts in_Pt hown hK hP 0 rfl rfl 3 (by decide) (hts _ wd_187) (fun _ h9 => h9) rfl dc_Pt_size_1 ?_
    refine lv_iload_n hx hb dc_Pt_size_4 rfl (lv_at hl 1 rfl) ?_
    refine kr_call1 (va_runV (As := [.int (nI jx)]) (rest := []) ⟨hx, hb, hml, hown, hts⟩ (ct_Cl_has l D cI cZ _ xc ca cb cd cn jx (by omega) (hjx)) (cwV 1 hts (kx_gV wd_239 wd_240 wd_241 wd_4 wd_242) rfl rfl rfl ⟨rfl, yd_Cl_has⟩ ⟨Nat.le_of_ble_eq_true rfl, Nat.le_of_ble_eq_true rfl⟩) (kp_V (q0 := 1) (ci := 2) hP hD hK hN [1] rfl rfl rfl rfl rfl) rfl rfl hl.1 rfl (lv_room (Nat.le_of_ble_eq_true rfl)) dc_Pt_size_5 ⟨Nat.le_of_ble_eq_true rfl, Nat.le_of_ble_eq_true rfl⟩) ?_
    refine kb_if_eq hx hb dc_Pt_size_8 rfl (fun hc8 => ?_) (fun hc8 => ?_)
    · have hx9 := of_decide_eq_false hc8
      refine lv_sipush (v := (-1000)) hx hb dc_Pt_size_23 (by decide +kernel) ?_
      exact kr_iret hx hb hr hlocks dc_Pt_size_26 (by rw [hzx, if_neg hx9])
    · have hx9 := of_decide_eq_true hc8
      refine lv_aload_n hx hb dc_Pt_size_11 rfl (lv_at hl 0 rfl) ?_
      refine va_get (ci := 9) (v := .ref xc) (C := rn_Pt) (T := fd_Pt) (N := 10) hx hb hts in_Pt hown hK hP 0 rfl rfl 3 (by decide) (hts _ wd_187) (fun _ h9 => h9) rfl dc_Pt_size_12 ?_
      refine va_getN (ci := 2) (v := .ref ca) (C := rn_Cl) (T := fd_Cl) (N := 4) hx hb hts in_Cl hown hK hP 1 rfl rfl 0 (by decide) (nf_67 hN) (fun _ h9 => h9) rfl dc_Pt_size_15 ?_
      refine lv_iload_n hx hb dc_Pt_size_18 rfl (lv_at hl 1 rfl) ?_
      refine ka_nald (t := fz) hx hb hK hP 2 0 rfl rfl (j := jx) (by omega) (by omega) dc_Pt_size_19 ?_
      refine lv_goto hx hb dc_Pt_size_20 rfl ?_
      exact kr_iret hx hb hr hlocks dc_Pt_size_26 (by rw [hzx, if_pos hx9])

set_option maxHeartbeats 4000000 in
set_option maxRecDepth 100000 in
theorem ct_Pt_literal (l : Launch) (D : va_G) (cI cZ : ClassId) (sz : Nat) (o : Nat) (xt : Nat) (xo : Nat) (xd : Nat) (xc : Nat) (xs : Nat) (xr : Nat) (xa : Nat) (hf : Bool) (hp : Bool) (fb : Nat) (ca : Nat) (cb : Nat) (cd : Nat) (cn : Nat) (fz : Nat → Nat) (fs : Nat → Nat) (fl : Nat → Int32) (x : Int32) (y : Int32) (hcn : cn ≤ 32) (hz : ∀ j, 1 ≤ j → j ≤ cn → fz j ≤ 8) : Met l yn_Pt_literal (Cond.code yn_Pt_literal bc_Pt_literal 3 (some .int) :: kx_all) ({ frames := 2, cells := 0, slots := 0, locals := 43 } : Room) (kp [.ref o, .int x, .int y] D cI cZ [pt_c o xt xo xd xc xs xr xa hf hp fb, cl_c xc ca cb cd cn, ar_n cI ca 33 fz, ar_n cI cb 33 fs, ar_i cI cd (33 * 8) fl] sz) (kr_q (some (.int (if (1 ≤ pt_num x ∧ pt_num x ≤ cn) ∧ ¬ y < 0 ∧ pt_num y < fz (pt_num x) then fl (pt_num x * 8 + pt_num y) else 0)))) 0 0 (fun _ => False) := by
  refine kx_met (by decide) (Nat.le_of_ble_eq_true rfl) ?_
  intro p e s m below meth c ls hx hb hr hml hts hown hlocks hin hsz hP hK hD hN hl
  have hown : s.vm.findClass rn_Pt = some m.cls := hown
  have hl : lv_has ls 3 [(0, .ref o), (1, .int x), (2, .int y)] := hl
  rcases num_or x with ⟨hix, hzx⟩ | ⟨jx, hjx, rfl, hzx⟩
  · rcases num_or y with ⟨hiy, hzy⟩ | ⟨jy, hjy, rfl, hzy⟩
    · refine lv_aload_n hx hb dc_Pt_literal_0 rfl (lv_at hl 0 rfl) ?_
      refine va_get (ci := 9) (v := .ref xc) (C := rn_Pt) (T := fd_Pt) (N := 10) hx hb hts in_Pt hown hK hP 0 rfl rfl 3 (by decide) (hts _ wd_187) (fun _ h9 => h9) rfl dc_Pt_literal_1 ?_
      refine lv_iload_n hx hb dc_Pt_literal_4 rfl (lv_at hl 1 rfl) ?_
      refine lv_iload_n hx hb dc_Pt_literal_5 rfl (lv_at hl 2 rfl) ?_
      refine kr_call1 (va_runV (As := [.int x, .int y]) (rest := []) ⟨hx, hb, hml, hown, hts⟩ (ct_Cl_literalAt_neg l D cI cZ _ xc ca cb cd cn x y (hix)) (cwV 2 hts (kx_gV wd_247 wd_248 wd_249 wd_4 wd_250) rfl rfl rfl ⟨rfl, yd_Cl_literalAt⟩ ⟨Nat.le_of_ble_eq_true rfl, Nat.le_of_ble_eq_true rfl⟩) (kp_V (q0 := 1) (ci := 2) hP hD hK hN [1] rfl rfl rfl rfl rfl) rfl rfl hl.1 rfl (lv_room (Nat.le_of_ble_eq_true rfl)) dc_Pt_literal_6 ⟨Nat.le_of_ble_eq_true rfl, Nat.le_of_ble_eq_true rfl⟩) ?_
      exact kr_iret hx hb hr hlocks dc_Pt_literal_9 (by rw [hzx, if_neg (by omega)])
    · refine lv_aload_n hx hb dc_Pt_literal_0 rfl (lv_at hl 0 rfl) ?_
      refine va_get (ci := 9) (v := .ref xc) (C := rn_Pt) (T := fd_Pt) (N := 10) hx hb hts in_Pt hown hK hP 0 rfl rfl 3 (by decide) (hts _ wd_187) (fun _ h9 => h9) rfl dc_Pt_literal_1 ?_
      refine lv_iload_n hx hb dc_Pt_literal_4 rfl (lv_at hl 1 rfl) ?_
      refine lv_iload_n hx hb dc_Pt_literal_5 rfl (lv_at hl 2 rfl) ?_
      refine kr_call1 (va_runV (As := [.int x, .int (nI jy)]) (rest := []) ⟨hx, hb, hml, hown, hts⟩ (ct_Cl_literalAt_neg l D cI cZ _ xc ca cb cd cn x (nI jy) (hix)) (cwV 2 hts (kx_gV wd_247 wd_248 wd_249 wd_4 wd_250) rfl rfl rfl ⟨rfl, yd_Cl_literalAt⟩ ⟨Nat.le_of_ble_eq_true rfl, Nat.le_of_ble_eq_true rfl⟩) (kp_V (q0 := 1) (ci := 2) hP hD hK hN [1] rfl rfl rfl rfl rfl) rfl rfl hl.1 rfl (lv_room (Nat.le_of_ble_eq_true rfl)) dc_Pt_literal_6 ⟨Nat.le_of_ble_eq_true rfl, Nat.le_of_ble_eq_true rfl⟩) ?_
      exact kr_iret hx hb hr hlocks dc_Pt_literal_9 (by rw [hzx, if_neg (by omega)])
  · rcases num_or y with ⟨hiy, hzy⟩ | ⟨jy, hjy, rfl, hzy⟩
    · refine lv_aload_n hx hb dc_Pt_literal_0 rfl (lv_at hl 0 rfl) ?_
      refine va_get (ci := 9) (v := .ref xc) (C := rn_Pt) (T := fd_Pt) (N := 10) hx hb hts in_Pt hown hK hP 0 rfl rfl 3 (by decide) (hts _ wd_187) (fun _ h9 => h9) rfl dc_Pt_literal_1 ?_
      refine lv_iload_n hx hb dc_Pt_literal_4 rfl (lv_at hl 1 rfl) ?_
      refine lv_iload_n hx hb dc_Pt_literal_5 rfl (lv_at hl 2 rfl) ?_
      refine kr_call1 (va_runV (As := [.int (nI jx), .int y]) (rest := []) ⟨hx, hb, hml, hown, hts⟩ (ct_Cl_literalAt_k l D cI cZ _ xc ca cb cd cn jx y (by omega) (hjx) (hiy)) (cwV 2 hts (kx_gV wd_247 wd_248 wd_249 wd_4 wd_250) rfl rfl rfl ⟨rfl, yd_Cl_literalAt⟩ ⟨Nat.le_of_ble_eq_true rfl, Nat.le_of_ble_eq_true rfl⟩) (kp_V (q0 := 1) (ci := 2) hP hD hK hN [1] rfl rfl rfl rfl rfl) rfl rfl hl.1 rfl (lv_room (Nat.le_of_ble_eq_true rfl)) dc_Pt_literal_6 ⟨Nat.le_of_ble_eq_true rfl, Nat.le_of_ble_eq_true rfl⟩) ?_
      exact kr_iret hx hb hr hlocks dc_Pt_literal_9 (by rw [if_neg (fun q => q.2.1 hiy)])
    · refine lv_aload_n hx hb dc_Pt_literal_0 rfl (lv_at hl 0 rfl) ?_
      refine va_get (ci := 9) (v := .ref xc) (C := rn_Pt) (T := fd_Pt) (N := 10) hx hb hts in_Pt hown hK hP 0 rfl rfl 3 (by decide) (hts _ wd_187) (fun _ h9 => h9) rfl dc_Pt_literal_1 ?_
      refine lv_iload_n hx hb dc_Pt_literal_4 rfl (lv_at hl 1 rfl) ?_
      refine lv_iload_n hx hb dc_Pt_literal_5 rfl (lv_at hl 2 rfl) ?_
      refine kr_call1 (va_runV (As := [.int (nI jx), .int (nI jy)]) (rest := []) ⟨hx, hb, hml, hown, hts⟩ (ct_Cl_literalAt l D cI cZ _ xc ca cb cd 33 cn fz fs fl jx jy (by omega) (by omega) (hz) (hjx) (hjy)) (cwV 2 hts (kx_gV wd_247 wd_248 wd_249 wd_4 wd_250) rfl rfl rfl ⟨rfl, yd_Cl_literalAt⟩ ⟨Nat.le_of_ble_eq_true rfl, Nat.le_of_ble_eq_true rfl⟩) (kp_V (q0 := 1) (ci := 2) hP hD hK hN [1, 2, 3, 4] rfl rfl rfl rfl rfl) rfl rfl hl.1 rfl (lv_room (Nat.le_of_ble_eq_true rfl)) dc_Pt_literal_6 ⟨Nat.le_of_ble_eq_true rfl, Nat.le_of_ble_eq_true rfl⟩) ?_
      exact kr_iret hx hb hr hlocks dc_Pt_literal_9 (by rw [hzx, hzy]; exact ite_congr (propext ⟨fun q => ⟨q.1, nI_p hjy, q.2⟩, fun q => ⟨q.1, q.2.2⟩⟩) (fun _ => rfl) (fun _ => rfl))

set_option maxHeartbeats 4000000 in
set_option maxRecDepth 100000 in
theorem ct_Pt_step (l : Launch) (D : va_G) (cI cZ : ClassId) (sz : Nat) (o : Nat) (xt : Nat) (xo : Nat) (xd : Nat) (xc : Nat) (xs : Nat) (xr : Nat) (xa : Nat) (hf : Bool) (hp : Bool) (fb : Nat) (sa : Nat) (sb : Nat) (sn : Nat) (op : Bool) (dl : Nat → Bool) (nu : Nat → Nat) (x : Int32) (hsn : sn ≤ 16) : Met l yn_Pt_step (Cond.code yn_Pt_step bc_Pt_step 2 (some .int) :: kx_all) ({ frames := 0, cells := 0, slots := 0, locals := 0 } : Room) (kp [.ref o, .int x] D cI cZ [pt_c o xt xo xd xc xs xr xa hf hp fb, sp_c xs sa sb sn op, ar_b cZ sa 17 dl, ar_n cI sb 17 nu] sz) (kr_q (some (.int (if 1 ≤ pt_num x ∧ pt_num x ≤ sn then nI (nu (pt_num x)) else (-1000))))) 0 0 (fun _ => False) := by
  refine kx_met (by decide) (Nat.le_of_ble_eq_true rfl) ?_
  intro p e s m below meth c ls hx hb hr hml hts hown hlocks hin hsz hP hK hD hN hl
  have hown : s.vm.findClass rn_Pt = some m.cls := hown
  have hl : lv_has ls 2 [(0, .ref o), (1, .int x)] := hl
  rcases num_or x with ⟨hix, hzx⟩ | ⟨jx, hjx, rfl, hzx⟩
  · refine lv_iload_n hx hb dc_Pt_step_0 rfl (lv_at hl 1 rfl) ?_
    refine lv_iconst (v := nI 1) hx hb dc_Pt_step_1 (by decide +kernel) ?_
    refine lv_icmp_lt hx hb dc_Pt_step_2 rfl (fun hc2 => ?_) (fun hc2 => ?_)
    · refine lv_sipush (v := (-1000)) hx hb dc_Pt_step_28 (by decide +kernel) ?_
      exact kr_iret hx hb hr hlocks dc_Pt_step_31 (by rw [hzx, if_neg (by omega)])
    · exact absurd (ni_lt1 hix 1 (by decide)) hc2
  · refine lv_iload_n hx hb dc_Pt_step_0 rfl (lv_at hl 1 rfl) ?_
    refine lv_iconst (v := nI 1) hx hb dc_Pt_step_1 (by decide +kernel) ?_
    refine kn_icmp_lt hx hb (by omega) (by omega) dc_Pt_step_2 rfl (fun hc2 => ?_) (fun hc2 => ?_)
    · refine lv_sipush (v := (-1000)) hx hb dc_Pt_step_28 (by decide +kernel) ?_
      exact kr_iret hx hb hr hlocks dc_Pt_step_31 (by rw [hzx, if_neg (by omega)])
    · refine lv_iload_n hx hb dc_Pt_step_5 rfl (lv_at hl 1 rfl) ?_
      refine lv_aload_n hx hb dc_Pt_step_6 rfl (lv_at hl 0 rfl) ?_
      refine va_get (ci := 9) (v := .ref xs) (C := rn_Pt) (T := fd_Pt) (N := 10) hx hb hts in_Pt hown hK hP 0 rfl rfl 4 (by decide) (hts _ wd_188) (fun _ h9 => h9) rfl dc_Pt_step_7 ?_
      refine va_getN (ci := 4) (v := .int (nI sn)) (C := rn_Sp) (T := fd_Sp) (N := 4) hx hb hts in_Sp hown hK hP 1 rfl rfl 2 (by decide) (nf_117 hN) (fun _ h9 => h9) rfl dc_Pt_step_10 ?_
      refine kn_icmp_gt hx hb (by omega) (by omega) dc_Pt_step_13 rfl (fun hc13 => ?_) (fun hc13 => ?_)
      · refine lv_sipush (v := (-1000)) hx hb dc_Pt_step_28 (by decide +kernel) ?_
        exact kr_iret hx hb hr hlocks dc_Pt_step_31 (by rw [hzx, if_neg (by omega)])
      · refine lv_aload_n hx hb dc_Pt_step_16 rfl (lv_at hl 0 rfl) ?_
        refine va_get (ci := 9) (v := .ref xs) (C := rn_Pt) (T := fd_Pt) (N := 10) hx hb hts in_Pt hown hK hP 0 rfl rfl 4 (by decide) (hts _ wd_188) (fun _ h9 => h9) rfl dc_Pt_step_17 ?_
        refine va_getN (ci := 4) (v := .ref sb) (C := rn_Sp) (T := fd_Sp) (N := 4) hx hb hts in_Sp hown hK hP 1 rfl rfl 1 (by decide) (nf_113 hN) (fun _ h9 => h9) rfl dc_Pt_step_20 ?_
        refine lv_iload_n hx hb dc_Pt_step_23 rfl (lv_at hl 1 rfl) ?_
        refine ka_nald (t := nu) hx hb hK hP 3 0 rfl rfl (j := jx) (by omega) (by omega) dc_Pt_step_24 ?_
        refine lv_goto hx hb dc_Pt_step_25 rfl ?_
        exact kr_iret hx hb hr hlocks dc_Pt_step_31 (by rw [hzx, if_pos ⟨by omega, by omega⟩])

set_option maxHeartbeats 4000000 in
set_option maxRecDepth 100000 in
theorem ct_Pt_marked (l : Launch) (D : va_G) (cI cZ : ClassId) (sz : Nat) (o : Nat) (xt : Nat) (xo : Nat) (xd : Nat) (xc : Nat) (xs : Nat) (xr : Nat) (xa : Nat) (hf : Bool) (hp : Bool) (fb : Nat) (ca : Nat) (cb : Nat) (cd : Nat) (cn : Nat) (fz : Nat → Nat) (fs : Nat → Nat) (fl : Nat → Int32) (ra : Nat) (rb : Nat) (rd : Nat) (g : Nat) (ma : Nat) (ck : Bool) (ft : Nat → Nat) (fc : Nat → Nat) (fr : Nat → Int32) (x : Int32) (hcn : cn ≤ 32) (hma : ma < 2 ^ 62) : Met l yn_Pt_marked (Cond.code yn_Pt_marked bc_Pt_marked 2 (some .boolean) :: kx_all) ({ frames := 1, cells := 0, slots := 0, locals := 22 } : Room) (kp [.ref o, .int x] D cI cZ [pt_c o xt xo xd xc xs xr xa hf hp fb, cl_c xc ca cb cd cn, ar_n cI ca 33 fz, ar_n cI cb 33 fs, ar_i cI cd (33 * 8) fl, tr_c xr ra rb rd g ma ck, ar_n cI ra 33 ft, ar_n cI rb 33 fc, ar_i cI rd 2048 fr] sz) (kr_q (some (.int (kb_i (decide (1 ≤ pt_num x ∧ pt_num x ≤ cn) && ma.testBit (pt_num x)))))) 0 0 (fun _ => False) := by
  refine kx_met (by decide) (Nat.le_of_ble_eq_true rfl) ?_
  intro p e s m below meth c ls hx hb hr hml hts hown hlocks hin hsz hP hK hD hN hl
  have hown : s.vm.findClass rn_Pt = some m.cls := hown
  have hl : lv_has ls 2 [(0, .ref o), (1, .int x)] := hl
  rcases num_or x with ⟨hix, hzx⟩ | ⟨jx, hjx, rfl, hzx⟩
  · refine lv_aload_n hx hb dc_Pt_marked_0 rfl (lv_at hl 0 rfl) ?_
    refine va_get (ci := 9) (v := .ref xc) (C := rn_Pt) (T := fd_Pt) (N := 10) hx hb hts in_Pt hown hK hP 0 rfl rfl 3 (by decide) (hts _ wd_187) (fun _ h9 => h9) rfl dc_Pt_marked_1 ?_
    refine lv_iload_n hx hb dc_Pt_marked_4 rfl (lv_at hl 1 rfl) ?_
    refine kr_call1 (va_runV (As := [.int x]) (rest := []) ⟨hx, hb, hml, hown, hts⟩ (ct_Cl_has_neg l D cI cZ _ xc ca cb cd cn x (hix)) (cwV 1 hts (kx_gV wd_239 wd_240 wd_241 wd_4 wd_242) rfl rfl rfl ⟨rfl, yd_Cl_has⟩ ⟨Nat.le_of_ble_eq_true rfl, Nat.le_of_ble_eq_true rfl⟩) (kp_V (q0 := 1) (ci := 2) hP hD hK hN [1] rfl rfl rfl rfl rfl) rfl rfl hl.1 rfl (lv_room (Nat.le_of_ble_eq_true rfl)) dc_Pt_marked_5 ⟨Nat.le_of_ble_eq_true rfl, Nat.le_of_ble_eq_true rfl⟩) ?_
    refine kb_if_eq hx hb dc_Pt_marked_8 rfl (fun hc8 => ?_) (fun hc8 => ?_)
    · refine lv_iconst (v := nI 0) hx hb dc_Pt_marked_29 (by decide +kernel) ?_
      refine kn_top (y := kb_i false) (by decide +kernel) ?_
      exact kr_zret hx hb hr hlocks dc_Pt_marked_30 (by rw [hzx]; rfl)
    · exact absurd hc8 (by decide)
  · refine lv_aload_n hx hb dc_Pt_marked_0 rfl (lv_at hl 0 rfl) ?_
    refine va_get (ci := 9) (v := .ref xc) (C := rn_Pt) (T := fd_Pt) (N := 10) hx hb hts in_Pt hown hK hP 0 rfl rfl 3 (by decide) (hts _ wd_187) (fun _ h9 => h9) rfl dc_Pt_marked_1 ?_
    refine lv_iload_n hx hb dc_Pt_marked_4 rfl (lv_at hl 1 rfl) ?_
    refine kr_call1 (va_runV (As := [.int (nI jx)]) (rest := []) ⟨hx, hb, hml, hown, hts⟩ (ct_Cl_has l D cI cZ _ xc ca cb cd cn jx (by omega) (hjx)) (cwV 1 hts (kx_gV wd_239 wd_240 wd_241 wd_4 wd_242) rfl rfl rfl ⟨rfl, yd_Cl_has⟩ ⟨Nat.le_of_ble_eq_true rfl, Nat.le_of_ble_eq_true rfl⟩) (kp_V (q0 := 1) (ci := 2) hP hD hK hN [1] rfl rfl rfl rfl rfl) rfl rfl hl.1 rfl (lv_room (Nat.le_of_ble_eq_true rfl)) dc_Pt_marked_5 ⟨Nat.le_of_ble_eq_true rfl, Nat.le_of_ble_eq_true rfl⟩) ?_
    refine kb_if_eq hx hb dc_Pt_marked_8 rfl (fun hc8 => ?_) (fun hc8 => ?_)
    · refine lv_iconst (v := nI 0) hx hb dc_Pt_marked_29 (by decide +kernel) ?_
      refine kn_top (y := kb_i false) (by decide +kernel) ?_
      exact kr_zret hx hb hr hlocks dc_Pt_marked_30 (by rw [hzx, hc8]; rfl)
    · have hx9 := of_decide_eq_true hc8
      refine lv_aload_n hx hb dc_Pt_marked_11 rfl (lv_at hl 0 rfl) ?_
      refine va_get (ci := 9) (v := .ref xr) (C := rn_Pt) (T := fd_Pt) (N := 10) hx hb hts in_Pt hown hK hP 0 rfl rfl 5 (by decide) (hts _ wd_189) (fun _ h9 => h9) rfl dc_Pt_marked_12 ?_
      refine va_getN (ci := 5) (v := .long (lN ma)) (C := rn_Tr) (T := fd_Tr) (N := 6) hx hb hts in_Tr hown hK hP 5 rfl rfl 4 (by decide) (nf_142 hN) (fun _ h9 => h9) rfl dc_Pt_marked_15 ?_
      refine lv_iload_n hx hb dc_Pt_marked_18 rfl (lv_at hl 1 rfl) ?_
      refine kr_call1 (va_runS (As := [.long (lN ma), .int (nI jx)]) (rest := []) ⟨hx, hb, hml, hown, hts⟩ (ct_Pt_contains l D cI cZ _ ma jx (hma) (by omega)) (cwS 2 hts (kx_gS wd_260 wd_261 wd_1 wd_262) rfl rfl rfl ⟨rfl, yd_Pt_contains⟩ ⟨Nat.le_of_ble_eq_true rfl, Nat.le_of_ble_eq_true rfl⟩) (kp_S hP hD hK hN [] rfl rfl) rfl rfl hl.1 rfl (lv_room (Nat.le_of_ble_eq_true rfl)) dc_Pt_marked_19 ⟨Nat.le_of_ble_eq_true rfl, Nat.le_of_ble_eq_true rfl⟩) ?_
      refine kb_if_eq hx hb dc_Pt_marked_22 rfl (fun hc22 => ?_) (fun hc22 => ?_)
      · refine lv_iconst (v := nI 0) hx hb dc_Pt_marked_29 (by decide +kernel) ?_
        refine kn_top (y := kb_i false) (by decide +kernel) ?_
        exact kr_zret hx hb hr hlocks dc_Pt_marked_30 (by rw [hzx, hc22, Bool.and_false])
      · refine lv_iconst (v := nI 1) hx hb dc_Pt_marked_25 (by decide +kernel) ?_
        refine lv_goto hx hb dc_Pt_marked_26 rfl ?_
        refine kn_top (y := kb_i true) (by decide +kernel) ?_
        exact kr_zret hx hb hr hlocks dc_Pt_marked_30 (by rw [hzx, hc22, hc8]; rfl)

set_option maxHeartbeats 4000000 in
set_option maxRecDepth 100000 in
theorem ct_Pt_hints (l : Launch) (D : va_G) (cI cZ : ClassId) (sz : Nat) (o : Nat) (xt : Nat) (xo : Nat) (xd : Nat) (xc : Nat) (xs : Nat) (xr : Nat) (xa : Nat) (hf : Bool) (hp : Bool) (fb : Nat) (ra : Nat) (rb : Nat) (rd : Nat) (g : Nat) (ma : Nat) (ck : Bool) (ft : Nat → Nat) (fc : Nat → Nat) (fr : Nat → Int32) (x : Int32)  : Met l yn_Pt_hints (Cond.code yn_Pt_hints bc_Pt_hints 2 (some .int) :: kx_all) ({ frames := 1, cells := 0, slots := 0, locals := 21 } : Room) (kp [.ref o, .int x] D cI cZ [pt_c o xt xo xd xc xs xr xa hf hp fb, tr_c xr ra rb rd g ma ck, ar_n cI ra 33 ft, ar_n cI rb 33 fc, ar_i cI rd 2048 fr] sz) (kr_q (some (.int (nI (pt_hc fc (pt_num x)))))) 0 0 (fun _ => False) := by
  refine kx_met (by decide) (Nat.le_of_ble_eq_true rfl) ?_
  intro p e s m below meth c ls hx hb hr hml hts hown hlocks hin hsz hP hK hD hN hl
  have hown : s.vm.findClass rn_Pt = some m.cls := hown
  have hl : lv_has ls 2 [(0, .ref o), (1, .int x)] := hl
  rcases num_or x with ⟨hix, hzx⟩ | ⟨jx, hjx, rfl, hzx⟩
  · refine lv_aload_n hx hb dc_Pt_hints_0 rfl (lv_at hl 0 rfl) ?_
    refine va_get (ci := 9) (v := .ref xr) (C := rn_Pt) (T := fd_Pt) (N := 10) hx hb hts in_Pt hown hK hP 0 rfl rfl 5 (by decide) (hts _ wd_189) (fun _ h9 => h9) rfl dc_Pt_hints_1 ?_
    refine lv_iload_n hx hb dc_Pt_hints_4 rfl (lv_at hl 1 rfl) ?_
    refine kr_call1 (va_runV (As := [.int x]) (rest := []) ⟨hx, hb, hml, hown, hts⟩ (ct_Tr_countOf_neg l D cI cZ _ xr ra rb rd g ma ck x (hix)) (cwV 1 hts (kx_gV wd_267 wd_268 wd_269 wd_7 wd_270) rfl rfl rfl ⟨rfl, yd_Tr_countOf⟩ ⟨Nat.le_of_ble_eq_true rfl, Nat.le_of_ble_eq_true rfl⟩) (kp_V (q0 := 1) (ci := 5) hP hD hK hN [1] rfl rfl rfl rfl rfl) rfl rfl hl.1 rfl (lv_room (Nat.le_of_ble_eq_true rfl)) dc_Pt_hints_5 ⟨Nat.le_of_ble_eq_true rfl, Nat.le_of_ble_eq_true rfl⟩) ?_
    exact kr_iret hx hb hr hlocks dc_Pt_hints_8 (by rw [hzx]; rfl)
  · refine lv_aload_n hx hb dc_Pt_hints_0 rfl (lv_at hl 0 rfl) ?_
    refine va_get (ci := 9) (v := .ref xr) (C := rn_Pt) (T := fd_Pt) (N := 10) hx hb hts in_Pt hown hK hP 0 rfl rfl 5 (by decide) (hts _ wd_189) (fun _ h9 => h9) rfl dc_Pt_hints_1 ?_
    refine lv_iload_n hx hb dc_Pt_hints_4 rfl (lv_at hl 1 rfl) ?_
    refine kr_call1 (va_runV (As := [.int (nI jx)]) (rest := []) ⟨hx, hb, hml, hown, hts⟩ (ct_Tr_countOf l D cI cZ _ xr ra rb rd g ma ck ft fc fr jx (hjx)) (cwV 1 hts (kx_gV wd_267 wd_268 wd_269 wd_7 wd_270) rfl rfl rfl ⟨rfl, yd_Tr_countOf⟩ ⟨Nat.le_of_ble_eq_true rfl, Nat.le_of_ble_eq_true rfl⟩) (kp_V (q0 := 1) (ci := 5) hP hD hK hN [1, 2, 3, 4] rfl rfl rfl rfl rfl) rfl rfl hl.1 rfl (lv_room (Nat.le_of_ble_eq_true rfl)) dc_Pt_hints_5 ⟨Nat.le_of_ble_eq_true rfl, Nat.le_of_ble_eq_true rfl⟩) ?_
    exact kr_iret hx hb hr hlocks dc_Pt_hints_8 (by rw [hzx])

set_option maxHeartbeats 4000000 in
set_option maxRecDepth 100000 in
theorem ct_Pt_hint (l : Launch) (D : va_G) (cI cZ : ClassId) (sz : Nat) (o : Nat) (xt : Nat) (xo : Nat) (xd : Nat) (xc : Nat) (xs : Nat) (xr : Nat) (xa : Nat) (hf : Bool) (hp : Bool) (fb : Nat) (ra : Nat) (rb : Nat) (rd : Nat) (g : Nat) (ma : Nat) (ck : Bool) (ft : Nat → Nat) (fc : Nat → Nat) (fr : Nat → Int32) (x : Int32) (y : Int32) (hb0 : ∀ j, 1 ≤ j → j ≤ 32 → ft j + fc j ≤ 2048) : Met l yn_Pt_hint (Cond.code yn_Pt_hint bc_Pt_hint 3 (some .int) :: kx_all) ({ frames := 2, cells := 0, slots := 0, locals := 43 } : Room) (kp [.ref o, .int x, .int y] D cI cZ [pt_c o xt xo xd xc xs xr xa hf hp fb, tr_c xr ra rb rd g ma ck, ar_n cI ra 33 ft, ar_n cI rb 33 fc, ar_i cI rd 2048 fr] sz) (kr_q (some (.int (if y < 0 then 0 else pt_hv ft fc fr (pt_num x) (pt_num y))))) 0 0 (fun _ => False) := by
  refine kx_met (by decide) (Nat.le_of_ble_eq_true rfl) ?_
  intro p e s m below meth c ls hx hb hr hml hts hown hlocks hin hsz hP hK hD hN hl
  have hown : s.vm.findClass rn_Pt = some m.cls := hown
  have hl : lv_has ls 3 [(0, .ref o), (1, .int x), (2, .int y)] := hl
  rcases num_or x with ⟨hix, hzx⟩ | ⟨jx, hjx, rfl, hzx⟩
  · rcases num_or y with ⟨hiy, hzy⟩ | ⟨jy, hjy, rfl, hzy⟩
    · refine lv_aload_n hx hb dc_Pt_hint_0 rfl (lv_at hl 0 rfl) ?_
      refine va_get (ci := 9) (v := .ref xr) (C := rn_Pt) (T := fd_Pt) (N := 10) hx hb hts in_Pt hown hK hP 0 rfl rfl 5 (by decide) (hts _ wd_189) (fun _ h9 => h9) rfl dc_Pt_hint_1 ?_
      refine lv_iload_n hx hb dc_Pt_hint_4 rfl (lv_at hl 1 rfl) ?_
      refine lv_iload_n hx hb dc_Pt_hint_5 rfl (lv_at hl 2 rfl) ?_
      refine kr_call1 (va_runV (As := [.int x, .int y]) (rest := []) ⟨hx, hb, hml, hown, hts⟩ (ct_Tr_hintAt_k l D cI cZ _ xr ra rb rd g ma ck x y (hiy)) (cwV 2 hts (kx_gV wd_275 wd_276 wd_277 wd_7 wd_278) rfl rfl rfl ⟨rfl, yd_Tr_hintAt⟩ ⟨Nat.le_of_ble_eq_true rfl, Nat.le_of_ble_eq_true rfl⟩) (kp_V (q0 := 1) (ci := 5) hP hD hK hN [1] rfl rfl rfl rfl rfl) rfl rfl hl.1 rfl (lv_room (Nat.le_of_ble_eq_true rfl)) dc_Pt_hint_6 ⟨Nat.le_of_ble_eq_true rfl, Nat.le_of_ble_eq_true rfl⟩) ?_
      exact kr_iret hx hb hr hlocks dc_Pt_hint_9 (by rw [if_pos hiy]; rfl)
    · refine lv_aload_n hx hb dc_Pt_hint_0 rfl (lv_at hl 0 rfl) ?_
      refine va_get (ci := 9) (v := .ref xr) (C := rn_Pt) (T := fd_Pt) (N := 10) hx hb hts in_Pt hown hK hP 0 rfl rfl 5 (by decide) (hts _ wd_189) (fun _ h9 => h9) rfl dc_Pt_hint_1 ?_
      refine lv_iload_n hx hb dc_Pt_hint_4 rfl (lv_at hl 1 rfl) ?_
      refine lv_iload_n hx hb dc_Pt_hint_5 rfl (lv_at hl 2 rfl) ?_
      refine kr_call1 (va_runV (As := [.int x, .int (nI jy)]) (rest := []) ⟨hx, hb, hml, hown, hts⟩ (ct_Tr_hintAt_neg l D cI cZ _ xr ra rb rd g ma ck x jy (hix) (hjy)) (cwV 2 hts (kx_gV wd_275 wd_276 wd_277 wd_7 wd_278) rfl rfl rfl ⟨rfl, yd_Tr_hintAt⟩ ⟨Nat.le_of_ble_eq_true rfl, Nat.le_of_ble_eq_true rfl⟩) (kp_V (q0 := 1) (ci := 5) hP hD hK hN [1] rfl rfl rfl rfl rfl) rfl rfl hl.1 rfl (lv_room (Nat.le_of_ble_eq_true rfl)) dc_Pt_hint_6 ⟨Nat.le_of_ble_eq_true rfl, Nat.le_of_ble_eq_true rfl⟩) ?_
      exact kr_iret hx hb hr hlocks dc_Pt_hint_9 (by rw [if_neg (nI_p hjy), hzx, pt_hv, if_neg (by unfold pt_hc; rw [if_neg (by omega)]; omega)]; rfl)
  · rcases num_or y with ⟨hiy, hzy⟩ | ⟨jy, hjy, rfl, hzy⟩
    · refine lv_aload_n hx hb dc_Pt_hint_0 rfl (lv_at hl 0 rfl) ?_
      refine va_get (ci := 9) (v := .ref xr) (C := rn_Pt) (T := fd_Pt) (N := 10) hx hb hts in_Pt hown hK hP 0 rfl rfl 5 (by decide) (hts _ wd_189) (fun _ h9 => h9) rfl dc_Pt_hint_1 ?_
      refine lv_iload_n hx hb dc_Pt_hint_4 rfl (lv_at hl 1 rfl) ?_
      refine lv_iload_n hx hb dc_Pt_hint_5 rfl (lv_at hl 2 rfl) ?_
      refine kr_call1 (va_runV (As := [.int (nI jx), .int y]) (rest := []) ⟨hx, hb, hml, hown, hts⟩ (ct_Tr_hintAt_k l D cI cZ _ xr ra rb rd g ma ck (nI jx) y (hiy)) (cwV 2 hts (kx_gV wd_275 wd_276 wd_277 wd_7 wd_278) rfl rfl rfl ⟨rfl, yd_Tr_hintAt⟩ ⟨Nat.le_of_ble_eq_true rfl, Nat.le_of_ble_eq_true rfl⟩) (kp_V (q0 := 1) (ci := 5) hP hD hK hN [1] rfl rfl rfl rfl rfl) rfl rfl hl.1 rfl (lv_room (Nat.le_of_ble_eq_true rfl)) dc_Pt_hint_6 ⟨Nat.le_of_ble_eq_true rfl, Nat.le_of_ble_eq_true rfl⟩) ?_
      exact kr_iret hx hb hr hlocks dc_Pt_hint_9 (by rw [if_pos hiy]; rfl)
    · refine lv_aload_n hx hb dc_Pt_hint_0 rfl (lv_at hl 0 rfl) ?_
      refine va_get (ci := 9) (v := .ref xr) (C := rn_Pt) (T := fd_Pt) (N := 10) hx hb hts in_Pt hown hK hP 0 rfl rfl 5 (by decide) (hts _ wd_189) (fun _ h9 => h9) rfl dc_Pt_hint_1 ?_
      refine lv_iload_n hx hb dc_Pt_hint_4 rfl (lv_at hl 1 rfl) ?_
      refine lv_iload_n hx hb dc_Pt_hint_5 rfl (lv_at hl 2 rfl) ?_
      refine kr_call1 (va_runV (As := [.int (nI jx), .int (nI jy)]) (rest := []) ⟨hx, hb, hml, hown, hts⟩ (ct_Tr_hintAt l D cI cZ _ xr ra rb rd g ma ck ft fc fr jx jy (hb0) (hjx) (hjy)) (cwV 2 hts (kx_gV wd_275 wd_276 wd_277 wd_7 wd_278) rfl rfl rfl ⟨rfl, yd_Tr_hintAt⟩ ⟨Nat.le_of_ble_eq_true rfl, Nat.le_of_ble_eq_true rfl⟩) (kp_V (q0 := 1) (ci := 5) hP hD hK hN [1, 2, 3, 4] rfl rfl rfl rfl rfl) rfl rfl hl.1 rfl (lv_room (Nat.le_of_ble_eq_true rfl)) dc_Pt_hint_6 ⟨Nat.le_of_ble_eq_true rfl, Nat.le_of_ble_eq_true rfl⟩) ?_
      exact kr_iret hx hb hr hlocks dc_Pt_hint_9 (by rw [if_neg (nI_p hjy), hzx, hzy])

set_option maxHeartbeats 4000000 in
set_option maxRecDepth 100000 in
theorem ct_Pt_poke (l : Launch) (D : va_G) (cI cZ : ClassId) (sz : Nat) (o : Nat) (xt : Nat) (xo : Nat) (xd : Nat) (xc : Nat) (xs : Nat) (xr : Nat) (xa : Nat) (hf : Bool) (hp : Bool) (fb : Nat) (ra : Nat) (rb : Nat) (rd : Nat) (g : Nat) (ma : Nat) (ck : Bool) (ft : Nat → Nat) (fc : Nat → Nat) (fr : Nat → Int32) (x : Int32) (y : Int32) (z : Int32) (hb0 : ∀ j, 1 ≤ j → j ≤ 32 → ft j + fc j ≤ 2048) : Met l yn_Pt_poke (Cond.code yn_Pt_poke bc_Pt_poke 4 (some .boolean) :: kx_all) ({ frames := 2, cells := 0, slots := 0, locals := 44 } : Room) (kp [.ref o, .int x, .int y, .int z] D cI cZ [pt_c o xt xo xd xc xs xr xa hf hp fb, tr_c xr ra rb rd g ma ck, ar_n cI ra 33 ft, ar_n cI rb 33 fc, ar_i cI rd 2048 fr] sz) (kw_q (some (.int (kb_i (decide (¬ y < 0 ∧ pt_num y < pt_hc fc (pt_num x)))))) D kc_l [pt_c o xt xo xd xc xs xr xa hf hp fb, tr_c xr ra rb rd g ma ck, ar_n cI ra 33 ft, ar_n cI rb 33 fc, ar_i cI rd 2048 (if ¬ y < 0 ∧ pt_num y < pt_hc fc (pt_num x) then upd fr (ft (pt_num x) + pt_num y) z else fr)] (va_A [pt_c o xt xo xd xc xs xr xa hf hp fb, tr_c xr ra rb rd g ma ck, ar_n cI ra 33 ft, ar_n cI rb 33 fc, ar_i cI rd 2048 fr] sz)) 0 0 (va_A [pt_c o xt xo xd xc xs xr xa hf hp fb, tr_c xr ra rb rd g ma ck, ar_n cI ra 33 ft, ar_n cI rb 33 fc, ar_i cI rd 2048 fr] sz) := by
  refine kx_metW (by decide) (Nat.le_of_ble_eq_true rfl) ?_
  intro p e s m below meth c ls A hx hb hr hml hts hown hlocks hin hA hP hK hD hN hl hS
  have hown : s.vm.findClass rn_Pt = some m.cls := hown
  have hl : lv_has ls 4 [(0, .ref o), (1, .int x), (2, .int y), (3, .int z)] := hl
  rcases num_or x with ⟨hix, hzx⟩ | ⟨jx, hjx, rfl, hzx⟩
  · rcases num_or y with ⟨hiy, hzy⟩ | ⟨jy, hjy, rfl, hzy⟩
    · refine lv_aload_n hx hb dc_Pt_poke_0 rfl (lv_at hl 0 rfl) ?_
      refine va_get (ci := 9) (v := .ref xr) (C := rn_Pt) (T := fd_Pt) (N := 10) hx hb hts in_Pt hown hK hP 0 rfl rfl 5 (by decide) (hts _ wd_189) (fun _ h9 => h9) rfl dc_Pt_poke_1 ?_
      refine lv_iload_n hx hb dc_Pt_poke_4 rfl (lv_at hl 1 rfl) ?_
      refine lv_iload_n hx hb dc_Pt_poke_5 rfl (lv_at hl 2 rfl) ?_
      refine lv_iload_n hx hb dc_Pt_poke_6 rfl (lv_at hl 3 rfl) ?_
      refine kr_call1 (va_runV (As := [.int x, .int y, .int z]) (rest := []) ⟨hx, hb, hml, hown, hts⟩ (ct_Tr_replace_k l D cI cZ _ xr ra rb rd g ma ck x y z (hiy)) (cwV 3 hts (kx_gV wd_284 wd_285 wd_286 wd_7 wd_287) rfl rfl rfl ⟨rfl, yd_Tr_replace⟩ ⟨Nat.le_of_ble_eq_true rfl, Nat.le_of_ble_eq_true rfl⟩) (kp_V (q0 := 1) (ci := 5) hP hD hK hN [1] rfl rfl rfl rfl rfl) rfl rfl hl.1 rfl (lv_room (Nat.le_of_ble_eq_true rfl)) dc_Pt_poke_7 ⟨Nat.le_of_ble_eq_true rfl, Nat.le_of_ble_eq_true rfl⟩) ?_
      exact kw_zret hx hb hr hlocks hP hD hS dc_Pt_poke_10 ((decide_eq_false (fun q => q.1 hiy)).symm) (by rw [if_neg (fun q => q.1 hiy)])
    · refine lv_aload_n hx hb dc_Pt_poke_0 rfl (lv_at hl 0 rfl) ?_
      refine va_get (ci := 9) (v := .ref xr) (C := rn_Pt) (T := fd_Pt) (N := 10) hx hb hts in_Pt hown hK hP 0 rfl rfl 5 (by decide) (hts _ wd_189) (fun _ h9 => h9) rfl dc_Pt_poke_1 ?_
      refine lv_iload_n hx hb dc_Pt_poke_4 rfl (lv_at hl 1 rfl) ?_
      refine lv_iload_n hx hb dc_Pt_poke_5 rfl (lv_at hl 2 rfl) ?_
      refine lv_iload_n hx hb dc_Pt_poke_6 rfl (lv_at hl 3 rfl) ?_
      refine kr_call1 (va_runV (As := [.int x, .int (nI jy), .int z]) (rest := []) ⟨hx, hb, hml, hown, hts⟩ (ct_Tr_replace_neg l D cI cZ _ xr ra rb rd g ma ck x jy z (hix) (hjy)) (cwV 3 hts (kx_gV wd_284 wd_285 wd_286 wd_7 wd_287) rfl rfl rfl ⟨rfl, yd_Tr_replace⟩ ⟨Nat.le_of_ble_eq_true rfl, Nat.le_of_ble_eq_true rfl⟩) (kp_V (q0 := 1) (ci := 5) hP hD hK hN [1] rfl rfl rfl rfl rfl) rfl rfl hl.1 rfl (lv_room (Nat.le_of_ble_eq_true rfl)) dc_Pt_poke_7 ⟨Nat.le_of_ble_eq_true rfl, Nat.le_of_ble_eq_true rfl⟩) ?_
      exact kw_zret hx hb hr hlocks hP hD hS dc_Pt_poke_10 ((decide_eq_false (fun q => by have h9 := q.2; rw [hzx] at h9; unfold pt_hc at h9; rw [if_neg (by omega)] at h9; omega)).symm) (by rw [if_neg (fun q => by have h9 := q.2; rw [hzx] at h9; unfold pt_hc at h9; rw [if_neg (by omega)] at h9; omega)])
  · rcases num_or y with ⟨hiy, hzy⟩ | ⟨jy, hjy, rfl, hzy⟩
    · refine lv_aload_n hx hb dc_Pt_poke_0 rfl (lv_at hl 0 rfl) ?_
      refine va_get (ci := 9) (v := .ref xr) (C := rn_Pt) (T := fd_Pt) (N := 10) hx hb hts in_Pt hown hK hP 0 rfl rfl 5 (by decide) (hts _ wd_189) (fun _ h9 => h9) rfl dc_Pt_poke_1 ?_
      refine lv_iload_n hx hb dc_Pt_poke_4 rfl (lv_at hl 1 rfl) ?_
      refine lv_iload_n hx hb dc_Pt_poke_5 rfl (lv_at hl 2 rfl) ?_
      refine lv_iload_n hx hb dc_Pt_poke_6 rfl (lv_at hl 3 rfl) ?_
      refine kr_call1 (va_runV (As := [.int (nI jx), .int y, .int z]) (rest := []) ⟨hx, hb, hml, hown, hts⟩ (ct_Tr_replace_k l D cI cZ _ xr ra rb rd g ma ck (nI jx) y z (hiy)) (cwV 3 hts (kx_gV wd_284 wd_285 wd_286 wd_7 wd_287) rfl rfl rfl ⟨rfl, yd_Tr_replace⟩ ⟨Nat.le_of_ble_eq_true rfl, Nat.le_of_ble_eq_true rfl⟩) (kp_V (q0 := 1) (ci := 5) hP hD hK hN [1] rfl rfl rfl rfl rfl) rfl rfl hl.1 rfl (lv_room (Nat.le_of_ble_eq_true rfl)) dc_Pt_poke_7 ⟨Nat.le_of_ble_eq_true rfl, Nat.le_of_ble_eq_true rfl⟩) ?_
      exact kw_zret hx hb hr hlocks hP hD hS dc_Pt_poke_10 ((decide_eq_false (fun q => q.1 hiy)).symm) (by rw [if_neg (fun q => q.1 hiy)])
    · refine lv_aload_n hx hb dc_Pt_poke_0 rfl (lv_at hl 0 rfl) ?_
      refine va_get (ci := 9) (v := .ref xr) (C := rn_Pt) (T := fd_Pt) (N := 10) hx hb hts in_Pt hown hK hP 0 rfl rfl 5 (by decide) (hts _ wd_189) (fun _ h9 => h9) rfl dc_Pt_poke_1 ?_
      refine lv_iload_n hx hb dc_Pt_poke_4 rfl (lv_at hl 1 rfl) ?_
      refine lv_iload_n hx hb dc_Pt_poke_5 rfl (lv_at hl 2 rfl) ?_
      refine lv_iload_n hx hb dc_Pt_poke_6 rfl (lv_at hl 3 rfl) ?_
      by_cases hyk : jy < pt_hc fc jx
      · refine kw_call1 (wr := [pt_c o xt xo xd xc xs xr xa hf hp fb]) (ws' := [pt_c o xt xo xd xc xs xr xa hf hp fb, tr_c xr ra rb rd g ma ck, ar_n cI ra 33 ft, ar_n cI rb 33 fc, ar_i cI rd 2048 (upd fr (ft jx + jy) z)]) (va_runV (As := [.int (nI jx), .int (nI jy), .int z]) (rest := []) ⟨hx, hb, hml, hown, hts⟩ (ct_Tr_replace l D cI cZ _ xr ra rb rd g ma ck ft fc fr jx jy z (hb0) (hjx) (hjy) (hyk)) (cwV 3 hts (kx_gV wd_284 wd_285 wd_286 wd_7 wd_287) rfl rfl rfl ⟨rfl, yd_Tr_replace⟩ ⟨Nat.le_of_ble_eq_true rfl, Nat.le_of_ble_eq_true rfl⟩) (kp_V (q0 := 1) (ci := 5) hP hD hK hN [1, 2, 3, 4] rfl rfl rfl rfl rfl) rfl rfl hl.1 rfl (lv_room (Nat.le_of_ble_eq_true rfl)) dc_Pt_poke_7 ⟨Nat.le_of_ble_eq_true rfl, Nat.le_of_ble_eq_true rfl⟩) hP hD hS hA [1, 2, 3, 4] [0] [0, 1, 2, 3, 4] rfl rfl rfl (by decide) rfl rfl (fun H locs hP hD hS => ?_)
        exact kw_zret hx hb hr hlocks hP hD hS dc_Pt_poke_10 ((decide_eq_true ⟨nI_p hjy, by rw [hzx, hzy]; exact hyk⟩).symm) (by rw [if_pos ⟨nI_p hjy, by rw [hzx, hzy]; exact hyk⟩, hzx, hzy])
      · refine kr_call1 (va_runV (As := [.int (nI jx), .int (nI jy), .int z]) (rest := []) ⟨hx, hb, hml, hown, hts⟩ (ct_Tr_replace_no l D cI cZ _ xr ra rb rd g ma ck ft fc fr jx jy z (hb0) (hjx) (hjy) (by omega)) (cwV 3 hts (kx_gV wd_284 wd_285 wd_286 wd_7 wd_287) rfl rfl rfl ⟨rfl, yd_Tr_replace⟩ ⟨Nat.le_of_ble_eq_true rfl, Nat.le_of_ble_eq_true rfl⟩) (kp_V (q0 := 1) (ci := 5) hP hD hK hN [1, 2, 3, 4] rfl rfl rfl rfl rfl) rfl rfl hl.1 rfl (lv_room (Nat.le_of_ble_eq_true rfl)) dc_Pt_poke_7 ⟨Nat.le_of_ble_eq_true rfl, Nat.le_of_ble_eq_true rfl⟩) ?_
        exact kw_zret hx hb hr hlocks hP hD hS dc_Pt_poke_10 ((decide_eq_false (fun q => by have h9 := q.2; rw [hzx, hzy] at h9; omega)).symm) (by rw [if_neg (fun q => by have h9 := q.2; rw [hzx, hzy] at h9; omega)])

set_option maxHeartbeats 4000000 in
set_option maxRecDepth 100000 in
theorem ct_Pt_written (l : Launch) (D : va_G) (cI cZ : ClassId) (sz : Nat) (o : Nat) (xt : Nat) (xo : Nat) (xd : Nat) (xc : Nat) (xs : Nat) (xr : Nat) (xa : Nat) (hf : Bool) (hp : Bool) (fb : Nat) (oa : Nat) (on : Nat) (ot : Nat → Nat) (x : Int32) (hon : on ≤ 448) : Met l yn_Pt_written (Cond.code yn_Pt_written bc_Pt_written 2 (some .int) :: kx_all) ({ frames := 1, cells := 0, slots := 0, locals := 21 } : Room) (kp [.ref o, .int x] D cI cZ [pt_c o xt xo xd xc xs xr xa hf hp fb, tx_c xo oa on, ar_n cI oa 448 ot] sz) (kr_q (some (.int (pt_at ot on x)))) 0 0 (fun _ => False) := by
  refine kx_met (by decide) (Nat.le_of_ble_eq_true rfl) ?_
  intro p e s m below meth c ls hx hb hr hml hts hown hlocks hin hsz hP hK hD hN hl
  have hown : s.vm.findClass rn_Pt = some m.cls := hown
  have hl : lv_has ls 2 [(0, .ref o), (1, .int x)] := hl
  refine lv_aload_n hx hb dc_Pt_written_0 rfl (lv_at hl 0 rfl) ?_
  refine va_get (ci := 9) (v := .ref xo) (C := rn_Pt) (T := fd_Pt) (N := 10) hx hb hts in_Pt hown hK hP 0 rfl rfl 1 (by decide) (hts _ wd_185) (fun _ h9 => h9) rfl dc_Pt_written_1 ?_
  refine lv_iload_n hx hb dc_Pt_written_4 rfl (lv_at hl 1 rfl) ?_
  refine kr_call1 (va_runV (As := [.int x]) (rest := []) ⟨hx, hb, hml, hown, hts⟩ (ct_Tx_at l D cI cZ _ xo oa 448 on ot x (by decide) (hon)) (cwV 1 hts (kx_gV wd_292 wd_293 wd_294 wd_2 wd_295) rfl rfl rfl ⟨rfl, yd_Tx_at⟩ ⟨Nat.le_of_ble_eq_true rfl, Nat.le_of_ble_eq_true rfl⟩) (kp_V (q0 := 1) (ci := 0) hP hD hK hN [1, 2] rfl rfl rfl rfl rfl) rfl rfl hl.1 rfl (lv_room (Nat.le_of_ble_eq_true rfl)) dc_Pt_written_5 ⟨Nat.le_of_ble_eq_true rfl, Nat.le_of_ble_eq_true rfl⟩) ?_
  exact kr_iret hx hb hr hlocks dc_Pt_written_8 (rfl)

set_option maxHeartbeats 4000000 in
set_option maxRecDepth 100000 in
theorem ct_Pt_type (l : Launch) (D : va_G) (cI cZ : ClassId) (sz : Nat) (o : Nat) (xt : Nat) (xo : Nat) (xd : Nat) (xc : Nat) (xs : Nat) (xr : Nat) (xa : Nat) (hf : Bool) (hp : Bool) (fb : Nat) (ta : Nat) (tn : Nat) (t : Nat → Nat) (b : Int64) (x : Int32) (hty : tn ≤ 250) : Met l yn_Pt_type (Cond.code yn_Pt_type bc_Pt_type 5 (some .int) :: kx_all) ({ frames := 1, cells := 0, slots := 0, locals := 21 } : Room) (kp [.ref o, .long b, .int x] D cI cZ [pt_c o xt xo xd xc xs xr xa hf hp fb, tx_c xt ta tn, ar_n cI ta 250 t] sz) (kw_q (some (.int (if 1 ≤ pt_num x ∧ pt_num x ≤ 8 ∧ tn + pt_num x ≤ 250 then nI (tn + pt_num x) else (-1000)))) D kc_l [pt_c o xt xo xd xc xs xr xa hf hp fb, tx_c xt ta (if 1 ≤ pt_num x ∧ pt_num x ≤ 8 ∧ tn + pt_num x ≤ 250 then tn + pt_num x else tn), ar_n cI ta 250 (if 1 ≤ pt_num x ∧ pt_num x ≤ 8 ∧ tn + pt_num x ≤ 250 then pt_typ t tn b (pt_num x) 0 else t)] (va_A [pt_c o xt xo xd xc xs xr xa hf hp fb, tx_c xt ta tn, ar_n cI ta 250 t] sz)) 0 0 (va_A [pt_c o xt xo xd xc xs xr xa hf hp fb, tx_c xt ta tn, ar_n cI ta 250 t] sz) := by
  refine kx_metW (by decide) (Nat.le_of_ble_eq_true rfl) ?_
  intro p e s m below meth c ls A hx hb hr hml hts hown hlocks hin hA hP hK hD hN hl hS
  have hown : s.vm.findClass rn_Pt = some m.cls := hown
  have hl : lv_has ls 5 [(0, .ref o), (1, .long b), (3, .int x)] := hl
  rcases num_or x with ⟨hix, hzx⟩ | ⟨jx, hjx, rfl, hzx⟩
  · refine lv_iload_n hx hb dc_Pt_type_0 rfl (lv_at hl 2 rfl) ?_
    refine lv_iconst (v := nI 1) hx hb dc_Pt_type_1 (by decide +kernel) ?_
    refine lv_icmp_lt hx hb dc_Pt_type_2 rfl (fun hc2 => ?_) (fun hc2 => ?_)
    · refine lv_sipush (v := (-1000)) hx hb dc_Pt_type_26 (by decide +kernel) ?_
      exact kw_iret hx hb hr hlocks hP hD hS dc_Pt_type_29 (by rw [hzx, if_neg (by omega)]) (by rw [hzx, if_neg (by omega), if_neg (by omega)])
    · exact absurd (ni_lt1 hix 1 (by decide)) hc2
  · refine lv_iload_n hx hb dc_Pt_type_0 rfl (lv_at hl 2 rfl) ?_
    refine lv_iconst (v := nI 1) hx hb dc_Pt_type_1 (by decide +kernel) ?_
    refine kn_icmp_lt hx hb (by omega) (by omega) dc_Pt_type_2 rfl (fun hc2 => ?_) (fun hc2 => ?_)
    · refine lv_sipush (v := (-1000)) hx hb dc_Pt_type_26 (by decide +kernel) ?_
      exact kw_iret hx hb hr hlocks hP hD hS dc_Pt_type_29 (by rw [hzx, if_neg (by omega)]) (by rw [hzx, if_neg (by omega), if_neg (by omega)])
    · refine lv_iload_n hx hb dc_Pt_type_5 rfl (lv_at hl 2 rfl) ?_
      refine lv_bipush (v := nI 8) hx hb dc_Pt_type_6 (by decide +kernel) ?_
      refine kn_icmp_gt hx hb (by omega) (by omega) dc_Pt_type_8 rfl (fun hc8 => ?_) (fun hc8 => ?_)
      · refine lv_sipush (v := (-1000)) hx hb dc_Pt_type_26 (by decide +kernel) ?_
        exact kw_iret hx hb hr hlocks hP hD hS dc_Pt_type_29 (by rw [hzx, if_neg (by omega)]) (by rw [hzx, if_neg (by omega), if_neg (by omega)])
      · refine lv_aload_n hx hb dc_Pt_type_11 rfl (lv_at hl 0 rfl) ?_
        refine va_get (ci := 9) (v := .ref xt) (C := rn_Pt) (T := fd_Pt) (N := 10) hx hb hts in_Pt hown hK hP 0 rfl rfl 0 (by decide) (hts _ wd_184) (fun _ h9 => h9) rfl dc_Pt_type_12 ?_
        refine va_getN (ci := 0) (v := .int (nI tn)) (C := rn_Tx) (T := fd_Tx) (N := 2) hx hb hts in_Tx hown hK hP 1 rfl rfl 1 (by decide) (nf_39 hN) (fun _ h9 => h9) rfl dc_Pt_type_15 ?_
        refine lv_iload_n hx hb dc_Pt_type_18 rfl (lv_at hl 2 rfl) ?_
        refine kn_iadd hx hb dc_Pt_type_19 ?_
        refine lv_sipush (v := nI 250) hx hb dc_Pt_type_20 (by decide +kernel) ?_
        refine kn_icmp_le hx hb (by omega) (by omega) dc_Pt_type_23 rfl (fun hc23 => ?_) (fun hc23 => ?_)
        · refine lv_iload_n hx hb dc_Pt_type_30 rfl (lv_at hl 2 rfl) ?_
          refine lv_iconst (v := nI 1) hx hb dc_Pt_type_31 (by decide +kernel) ?_
          refine lv_isub hx hb dc_Pt_type_32 ?_
          refine kn_top (y := pt_dn jx) rfl ?_
          refine lv_istore (lv' := [(4, .int (pt_dn jx)), (0, .ref o), (1, .long b), (3, .int (nI jx))]) hx hb dc_Pt_type_33 hl (by decide) rfl (fun ls hl => ?_)
          have hP : va_P D kc_l [pt_c o xt xo xd xc xs xr xa hf hp fb, tx_c xt ta (tn + (jx - jx)), ar_n cI ta 250 (pt_typ t tn b jx jx)] s.heap := by rw [Nat.sub_self, typ_0]; exact hP
          have hD : va_D A [pt_c o xt xo xd xc xs xr xa hf hp fb, tx_c xt ta (tn + (jx - jx)), ar_n cI ta 250 (pt_typ t tn b jx jx)] := by rw [Nat.sub_self, typ_0]; exact hD
          have lp_35 : ∀ (K : Nat) (k : Nat) (H : Heap) (locs : List Loc) (ls : Array Slot), k < K → va_P D kc_l [pt_c o xt xo xd xc xs xr xa hf hp fb, tx_c xt ta (tn + (jx - k)), ar_n cI ta 250 (pt_typ t tn b jx k)] H → va_D A [pt_c o xt xo xd xc xs xr xa hf hp fb, tx_c xt ta (tn + (jx - k)), ar_n cI ta 250 (pt_typ t tn b jx k)] → va_S A s.heap H locs → lv_has ls 5 [(4, .int (pt_dn k)), (0, .ref o), (1, .long b), (3, .int (nI jx))] → (k ≤ jx) → W p l e ({ frames := 1, cells := 0, slots := 0, locals := 21 } : Room) s m ([.ref o, .long b, .int (nI jx)] : List Value).toArray below meth c H locs 0 0 (MQ below (kw_q (some (.int (if 1 ≤ pt_num (nI jx) ∧ pt_num (nI jx) ≤ 8 ∧ tn + pt_num (nI jx) ≤ 250 then nI (tn + pt_num (nI jx)) else (-1000)))) D kc_l [pt_c o xt xo xd xc xs xr xa hf hp fb, tx_c xt ta (if 1 ≤ pt_num (nI jx) ∧ pt_num (nI jx) ≤ 8 ∧ tn + pt_num (nI jx) ≤ 250 then tn + pt_num (nI jx) else tn), ar_n cI ta 250 (if 1 ≤ pt_num (nI jx) ∧ pt_num (nI jx) ≤ 8 ∧ tn + pt_num (nI jx) ≤ 250 then pt_typ t tn b (pt_num (nI jx)) 0 else t)] A) ([.ref o, .long b, .int (nI jx)] : List Value).toArray s 0 0 A) (F0 m 35 ls []) := by
            intro K
            induction K with
            | zero =>
              intro k H locs ls hk
              exact absurd hk (Nat.not_lt_zero _)
            | succ K ih_35 =>
              intro k H locs ls hk hP hD hS hl h2
              refine lv_iload hx hb dc_Pt_type_35 (lv_at hl 0 rfl) ?_
              refine lv_if_lt hx hb dc_Pt_type_37 rfl (fun hc37 => ?_) (fun hc37 => ?_)
              · refine lv_aload_n hx hb dc_Pt_type_65 rfl (lv_at hl 1 rfl) ?_
                refine va_get (ci := 9) (v := .ref xt) (C := rn_Pt) (T := fd_Pt) (N := 10) hx hb hts in_Pt hown hK hP 0 rfl rfl 0 (by decide) (hts _ wd_184) (fun _ h9 => h9) rfl dc_Pt_type_66 ?_
                refine va_getN (ci := 0) (v := .int (nI (tn + (jx - k)))) (C := rn_Tx) (T := fd_Tx) (N := 2) hx hb hts in_Tx hown hK hP 1 rfl rfl 1 (by decide) (nf_39 hN) (fun _ h9 => h9) rfl dc_Pt_type_69 ?_
                exact kw_iret hx hb hr hlocks hP hD hS dc_Pt_type_72 (by have hk0 : k = 0 := (pt_dn_p (by omega)).mp hc37; subst hk0; rw [hzx, if_pos (by omega)]; rfl) (by have hk0 : k = 0 := (pt_dn_p (by omega)).mp hc37; subst hk0; rw [hzx, if_pos (by omega), if_pos (by omega)]; rfl)
              · obtain ⟨q, rfl⟩ : ∃ q, k = q + 1 := ⟨k - 1, by have h9 : ¬ k = 0 := fun h8 => hc37 ((pt_dn_p (k := k) (by omega)).mpr h8); omega⟩
                rw [pt_dn_s] at hl
                refine lv_aload_n hx hb dc_Pt_type_40 rfl (lv_at hl 1 rfl) ?_
                refine va_get (ci := 9) (v := .ref xt) (C := rn_Pt) (T := fd_Pt) (N := 10) hx hb hts in_Pt hown hK hP 0 rfl rfl 0 (by decide) (hts _ wd_184) (fun _ h9 => h9) rfl dc_Pt_type_41 ?_
                refine lv_lload_n hx hb dc_Pt_type_44 rfl (lv_at hl 2 rfl) ?_
                refine lv_bipush (v := nI 8) hx hb dc_Pt_type_45 (by decide +kernel) ?_
                refine lv_iload hx hb dc_Pt_type_47 (lv_at hl 0 rfl) ?_
                refine kn_imul hx hb dc_Pt_type_49 ?_
                refine lv_lushr hx hb dc_Pt_type_50 rfl ?_
                refine lv_l2i hx hb dc_Pt_type_51 rfl ?_
                refine lv_sipush (v := nI 255) hx hb dc_Pt_type_52 (by decide +kernel) ?_
                refine lv_iand hx hb dc_Pt_type_55 ?_
                refine kn_top (y := nI (pt_byte b q)) (byte_c b q (by omega)) ?_
                refine kw_call0 (wr := [pt_c o xt xo xd xc xs xr xa hf hp fb]) (ws' := [pt_c o xt xo xd xc xs xr xa hf hp fb, tx_c xt ta ((tn + (jx - (q + 1))) + 1), ar_n cI ta 250 (va_up (pt_typ t tn b jx (q + 1)) (tn + (jx - (q + 1))) (pt_byte b q))]) (va_runV (As := [.int (nI (pt_byte b q))]) (rest := []) ⟨hx, hb, hml, hown, hts⟩ (ct_Tx_put l D cI cZ _ xt ta 250 (tn + (jx - (q + 1))) (pt_typ t tn b jx (q + 1)) (pt_byte b q) (by decide) (by omega)) (cwV 1 hts (kx_gV wd_219 wd_220 wd_221 wd_2 wd_222) rfl rfl rfl ⟨rfl, yd_Tx_put⟩ ⟨Nat.le_of_ble_eq_true rfl, Nat.le_of_ble_eq_true rfl⟩) (kp_V (q0 := 1) (ci := 0) hP hD hK hN [1, 2] rfl rfl rfl rfl rfl) rfl rfl hl.1 rfl (lv_room (Nat.le_of_ble_eq_true rfl)) dc_Pt_type_56 ⟨Nat.le_of_ble_eq_true rfl, Nat.le_of_ble_eq_true rfl⟩) hP hD hS hA [1, 2] [0] [0, 1, 2] rfl rfl rfl (by decide) rfl rfl (fun H locs hP hD hS => ?_)
                refine lv_iinc (k := 0) (v := pt_dn q) (lv' := [(4, .int (pt_dn q)), (0, .ref o), (1, .long b), (3, .int (nI jx))]) hx hb dc_Pt_type_59 hl rfl (pt_dn_i _) (by decide) rfl (fun ls hl => ?_)
                refine lv_goto hx hb dc_Pt_type_62 rfl ?_
                have hP : va_P D kc_l [pt_c o xt xo xd xc xs xr xa hf hp fb, tx_c xt ta (tn + (jx - q)), ar_n cI ta 250 (pt_typ t tn b jx q)] H := by rw [← typ_s (by omega), show tn + (jx - q) = tn + (jx - (q + 1)) + 1 by omega]; exact hP
                have hD : va_D A [pt_c o xt xo xd xc xs xr xa hf hp fb, tx_c xt ta (tn + (jx - q)), ar_n cI ta 250 (pt_typ t tn b jx q)] := by rw [← typ_s (by omega), show tn + (jx - q) = tn + (jx - (q + 1)) + 1 by omega]; exact hD
                exact ih_35 _ _ _ _ (by omega) hP hD hS hl (by omega)
          exact lp_35 _ jx _ _ _ (Nat.lt_succ_self _) hP hD hS hl (by omega)
        · refine lv_sipush (v := (-1000)) hx hb dc_Pt_type_26 (by decide +kernel) ?_
          exact kw_iret hx hb hr hlocks hP hD hS dc_Pt_type_29 (by rw [hzx, if_neg (by omega)]) (by rw [hzx, if_neg (by omega), if_neg (by omega)])
