/-! the class writes -/
theorem abs_ng : ∀ b, b < 16 → 8 ≤ b → (if 0 ≤ -nI (b - 7) then -nI (b - 7) else 0 - -nI (b - 7)) = nI (b - 7) := by decide +kernel
theorem wr_l {fz : Nat → Nat} {fl : Nat → Int32} {ba mk : Nat} {dl : Nat → Bool} {nu : Nat → Nat} {k : Nat} (h : pt_sel ba mk dl nu (k + 1) = true) : pt_wr fz fl ba mk dl nu (k + 1) = pt_wr fz fl ba mk dl nu k ++ pt_line fl (dl (k + 1)) (nu (k + 1)) (fz (nu (k + 1))) := by
  rw [pt_wr, if_pos h]
theorem line_e {fl : Nat → Int32} {d : Bool} {c w : Nat} {L B : List Nat} (h : L ++ pt_hd d = B) : L ++ pt_line fl d c w = B ++ pt_chs fl (c * 8) w ++ [48] ++ [10] := by
  subst h
  unfold pt_line
  simp [List.append_assoc]
theorem app_2 {L : List Nat} {x y : Nat} : L ++ [x, y] = L ++ [x] ++ [y] := by simp

theorem dc_Pt_writeStep_0 : decode bc_Pt_writeStep 0 = .ok (.iload_n 1, 1) := by decide +kernel
theorem dc_Pt_writeStep_1 : decode bc_Pt_writeStep 1 = .ok (.ifCond .eq (21), 3) := by decide +kernel
theorem dc_Pt_writeStep_4 : decode bc_Pt_writeStep 4 = .ok (.aload_n 0, 1) := by decide +kernel
theorem dc_Pt_writeStep_5 : decode bc_Pt_writeStep 5 = .ok (.getfield 18, 3) := by decide +kernel
theorem dc_Pt_writeStep_8 : decode bc_Pt_writeStep 8 = .ok (.bipush (100), 2) := by decide +kernel
theorem dc_Pt_writeStep_10 : decode bc_Pt_writeStep 10 = .ok (.invokevirtual 60, 3) := by decide +kernel
theorem dc_Pt_writeStep_13 : decode bc_Pt_writeStep 13 = .ok (.aload_n 0, 1) := by decide +kernel
theorem dc_Pt_writeStep_14 : decode bc_Pt_writeStep 14 = .ok (.getfield 18, 3) := by decide +kernel
theorem dc_Pt_writeStep_17 : decode bc_Pt_writeStep 17 = .ok (.bipush (32), 2) := by decide +kernel
theorem dc_Pt_writeStep_19 : decode bc_Pt_writeStep 19 = .ok (.invokevirtual 60, 3) := by decide +kernel
theorem dc_Pt_writeStep_22 : decode bc_Pt_writeStep 22 = .ok (.iconst 0, 1) := by decide +kernel
theorem dc_Pt_writeStep_23 : decode bc_Pt_writeStep 23 = .ok (.istore_n 3, 1) := by decide +kernel
theorem dc_Pt_writeStep_24 : decode bc_Pt_writeStep 24 = .ok (.iload_n 3, 1) := by decide +kernel
theorem dc_Pt_writeStep_25 : decode bc_Pt_writeStep 25 = .ok (.aload_n 0, 1) := by decide +kernel
theorem dc_Pt_writeStep_26 : decode bc_Pt_writeStep 26 = .ok (.getfield 31, 3) := by decide +kernel
theorem dc_Pt_writeStep_29 : decode bc_Pt_writeStep 29 = .ok (.getfield 164, 3) := by decide +kernel
theorem dc_Pt_writeStep_32 : decode bc_Pt_writeStep 32 = .ok (.iload_n 2, 1) := by decide +kernel
theorem dc_Pt_writeStep_33 : decode bc_Pt_writeStep 33 = .ok (.iaload, 1) := by decide +kernel
theorem dc_Pt_writeStep_34 : decode bc_Pt_writeStep 34 = .ok (.if_icmp .ge (58), 3) := by decide +kernel
theorem dc_Pt_writeStep_37 : decode bc_Pt_writeStep 37 = .ok (.aload_n 0, 1) := by decide +kernel
theorem dc_Pt_writeStep_38 : decode bc_Pt_writeStep 38 = .ok (.getfield 31, 3) := by decide +kernel
theorem dc_Pt_writeStep_41 : decode bc_Pt_writeStep 41 = .ok (.iload_n 2, 1) := by decide +kernel
theorem dc_Pt_writeStep_42 : decode bc_Pt_writeStep 42 = .ok (.iload_n 3, 1) := by decide +kernel
theorem dc_Pt_writeStep_43 : decode bc_Pt_writeStep 43 = .ok (.invokevirtual 168, 3) := by decide +kernel
theorem dc_Pt_writeStep_46 : decode bc_Pt_writeStep 46 = .ok (.istore 4, 2) := by decide +kernel
theorem dc_Pt_writeStep_48 : decode bc_Pt_writeStep 48 = .ok (.iload 4, 2) := by decide +kernel
theorem dc_Pt_writeStep_50 : decode bc_Pt_writeStep 50 = .ok (.ifCond .ge (12), 3) := by decide +kernel
theorem dc_Pt_writeStep_53 : decode bc_Pt_writeStep 53 = .ok (.aload_n 0, 1) := by decide +kernel
theorem dc_Pt_writeStep_54 : decode bc_Pt_writeStep 54 = .ok (.getfield 18, 3) := by decide +kernel
theorem dc_Pt_writeStep_57 : decode bc_Pt_writeStep 57 = .ok (.bipush (45), 2) := by decide +kernel
theorem dc_Pt_writeStep_59 : decode bc_Pt_writeStep 59 = .ok (.invokevirtual 60, 3) := by decide +kernel
theorem dc_Pt_writeStep_62 : decode bc_Pt_writeStep 62 = .ok (.aload_n 0, 1) := by decide +kernel
theorem dc_Pt_writeStep_63 : decode bc_Pt_writeStep 63 = .ok (.getfield 18, 3) := by decide +kernel
theorem dc_Pt_writeStep_66 : decode bc_Pt_writeStep 66 = .ok (.bipush (48), 2) := by decide +kernel
theorem dc_Pt_writeStep_68 : decode bc_Pt_writeStep 68 = .ok (.iload 4, 2) := by decide +kernel
theorem dc_Pt_writeStep_70 : decode bc_Pt_writeStep 70 = .ok (.invokestatic 209, 3) := by decide +kernel
theorem dc_Pt_writeStep_73 : decode bc_Pt_writeStep 73 = .ok (.iadd, 1) := by decide +kernel
theorem dc_Pt_writeStep_74 : decode bc_Pt_writeStep 74 = .ok (.invokevirtual 60, 3) := by decide +kernel
theorem dc_Pt_writeStep_77 : decode bc_Pt_writeStep 77 = .ok (.aload_n 0, 1) := by decide +kernel
theorem dc_Pt_writeStep_78 : decode bc_Pt_writeStep 78 = .ok (.getfield 18, 3) := by decide +kernel
theorem dc_Pt_writeStep_81 : decode bc_Pt_writeStep 81 = .ok (.bipush (32), 2) := by decide +kernel
theorem dc_Pt_writeStep_83 : decode bc_Pt_writeStep 83 = .ok (.invokevirtual 60, 3) := by decide +kernel
theorem dc_Pt_writeStep_86 : decode bc_Pt_writeStep 86 = .ok (.iinc 3 (1), 3) := by decide +kernel
theorem dc_Pt_writeStep_89 : decode bc_Pt_writeStep 89 = .ok (.goto (-65), 3) := by decide +kernel
theorem dc_Pt_writeStep_92 : decode bc_Pt_writeStep 92 = .ok (.aload_n 0, 1) := by decide +kernel
theorem dc_Pt_writeStep_93 : decode bc_Pt_writeStep 93 = .ok (.getfield 18, 3) := by decide +kernel
theorem dc_Pt_writeStep_96 : decode bc_Pt_writeStep 96 = .ok (.bipush (48), 2) := by decide +kernel
theorem dc_Pt_writeStep_98 : decode bc_Pt_writeStep 98 = .ok (.invokevirtual 60, 3) := by decide +kernel
theorem dc_Pt_writeStep_101 : decode bc_Pt_writeStep 101 = .ok (.aload_n 0, 1) := by decide +kernel
theorem dc_Pt_writeStep_102 : decode bc_Pt_writeStep 102 = .ok (.getfield 18, 3) := by decide +kernel
theorem dc_Pt_writeStep_105 : decode bc_Pt_writeStep 105 = .ok (.bipush (10), 2) := by decide +kernel
theorem dc_Pt_writeStep_107 : decode bc_Pt_writeStep 107 = .ok (.invokevirtual 60, 3) := by decide +kernel
theorem dc_Pt_writeStep_110 : decode bc_Pt_writeStep 110 = .ok (.return_, 1) := by decide +kernel
theorem dc_Pt_write_0 : decode bc_Pt_write 0 = .ok (.aload_n 0, 1) := by decide +kernel
theorem dc_Pt_write_1 : decode bc_Pt_write 1 = .ok (.getfield 45, 3) := by decide +kernel
theorem dc_Pt_write_4 : decode bc_Pt_write 4 = .ok (.getfield 141, 3) := by decide +kernel
theorem dc_Pt_write_7 : decode bc_Pt_write 7 = .ok (.ifCond .ne (13), 3) := by decide +kernel
theorem dc_Pt_write_10 : decode bc_Pt_write 10 = .ok (.new 109, 3) := by decide +kernel
theorem dc_Pt_write_13 : decode bc_Pt_write 13 = .ok (.dup, 1) := by decide +kernel
theorem dc_Pt_write_14 : decode bc_Pt_write 14 = .ok (.ldc 190, 2) := by decide +kernel
theorem dc_Pt_write_16 : decode bc_Pt_write 16 = .ok (.invokespecial 113, 3) := by decide +kernel
theorem dc_Pt_write_19 : decode bc_Pt_write 19 = .ok (.athrow, 1) := by decide +kernel
theorem dc_Pt_write_20 : decode bc_Pt_write 20 = .ok (.aload_n 0, 1) := by decide +kernel
theorem dc_Pt_write_21 : decode bc_Pt_write 21 = .ok (.getfield 18, 3) := by decide +kernel
theorem dc_Pt_write_24 : decode bc_Pt_write 24 = .ok (.invokevirtual 63, 3) := by decide +kernel
theorem dc_Pt_write_27 : decode bc_Pt_write 27 = .ok (.iconst 1, 1) := by decide +kernel
theorem dc_Pt_write_28 : decode bc_Pt_write 28 = .ok (.istore_n 1, 1) := by decide +kernel
theorem dc_Pt_write_29 : decode bc_Pt_write 29 = .ok (.iload_n 1, 1) := by decide +kernel
theorem dc_Pt_write_30 : decode bc_Pt_write 30 = .ok (.aload_n 0, 1) := by decide +kernel
theorem dc_Pt_write_31 : decode bc_Pt_write 31 = .ok (.getfield 38, 3) := by decide +kernel
theorem dc_Pt_write_34 : decode bc_Pt_write 34 = .ok (.getfield 172, 3) := by decide +kernel
theorem dc_Pt_write_37 : decode bc_Pt_write 37 = .ok (.if_icmp .gt (70), 3) := by decide +kernel
theorem dc_Pt_write_40 : decode bc_Pt_write 40 = .ok (.aload_n 0, 1) := by decide +kernel
theorem dc_Pt_write_41 : decode bc_Pt_write 41 = .ok (.getfield 38, 3) := by decide +kernel
theorem dc_Pt_write_44 : decode bc_Pt_write 44 = .ok (.getfield 173, 3) := by decide +kernel
theorem dc_Pt_write_47 : decode bc_Pt_write 47 = .ok (.iload_n 1, 1) := by decide +kernel
theorem dc_Pt_write_48 : decode bc_Pt_write 48 = .ok (.iaload, 1) := by decide +kernel
theorem dc_Pt_write_49 : decode bc_Pt_write 49 = .ok (.istore_n 2, 1) := by decide +kernel
theorem dc_Pt_write_50 : decode bc_Pt_write 50 = .ok (.iload_n 2, 1) := by decide +kernel
theorem dc_Pt_write_51 : decode bc_Pt_write 51 = .ok (.iconst 1, 1) := by decide +kernel
theorem dc_Pt_write_52 : decode bc_Pt_write 52 = .ok (.if_icmp .lt (15), 3) := by decide +kernel
theorem dc_Pt_write_55 : decode bc_Pt_write 55 = .ok (.iload_n 2, 1) := by decide +kernel
theorem dc_Pt_write_56 : decode bc_Pt_write 56 = .ok (.aload_n 0, 1) := by decide +kernel
theorem dc_Pt_write_57 : decode bc_Pt_write 57 = .ok (.getfield 95, 3) := by decide +kernel
theorem dc_Pt_write_60 : decode bc_Pt_write 60 = .ok (.if_icmp .gt (7), 3) := by decide +kernel
theorem dc_Pt_write_63 : decode bc_Pt_write 63 = .ok (.iconst 1, 1) := by decide +kernel
theorem dc_Pt_write_64 : decode bc_Pt_write 64 = .ok (.goto (4), 3) := by decide +kernel
theorem dc_Pt_write_67 : decode bc_Pt_write 67 = .ok (.iconst 0, 1) := by decide +kernel
theorem dc_Pt_write_68 : decode bc_Pt_write 68 = .ok (.istore_n 3, 1) := by decide +kernel
theorem dc_Pt_write_69 : decode bc_Pt_write 69 = .ok (.iload_n 3, 1) := by decide +kernel
theorem dc_Pt_write_70 : decode bc_Pt_write 70 = .ok (.ifCond .ne (17), 3) := by decide +kernel
theorem dc_Pt_write_73 : decode bc_Pt_write 73 = .ok (.aload_n 0, 1) := by decide +kernel
theorem dc_Pt_write_74 : decode bc_Pt_write 74 = .ok (.getfield 45, 3) := by decide +kernel
theorem dc_Pt_write_77 : decode bc_Pt_write 77 = .ok (.getfield 144, 3) := by decide +kernel
theorem dc_Pt_write_80 : decode bc_Pt_write 80 = .ok (.iload_n 2, 1) := by decide +kernel
theorem dc_Pt_write_81 : decode bc_Pt_write 81 = .ok (.invokestatic 176, 3) := by decide +kernel
theorem dc_Pt_write_84 : decode bc_Pt_write 84 = .ok (.ifCond .eq (17), 3) := by decide +kernel
theorem dc_Pt_write_87 : decode bc_Pt_write 87 = .ok (.aload_n 0, 1) := by decide +kernel
theorem dc_Pt_write_88 : decode bc_Pt_write 88 = .ok (.aload_n 0, 1) := by decide +kernel
theorem dc_Pt_write_89 : decode bc_Pt_write 89 = .ok (.getfield 38, 3) := by decide +kernel
theorem dc_Pt_write_92 : decode bc_Pt_write 92 = .ok (.getfield 198, 3) := by decide +kernel
theorem dc_Pt_write_95 : decode bc_Pt_write 95 = .ok (.iload_n 1, 1) := by decide +kernel
theorem dc_Pt_write_96 : decode bc_Pt_write 96 = .ok (.baload, 1) := by decide +kernel
theorem dc_Pt_write_97 : decode bc_Pt_write 97 = .ok (.iload_n 2, 1) := by decide +kernel
theorem dc_Pt_write_98 : decode bc_Pt_write 98 = .ok (.invokevirtual 202, 3) := by decide +kernel
theorem dc_Pt_write_101 : decode bc_Pt_write 101 = .ok (.iinc 1 (1), 3) := by decide +kernel
theorem dc_Pt_write_104 : decode bc_Pt_write 104 = .ok (.goto (-75), 3) := by decide +kernel
theorem dc_Pt_write_107 : decode bc_Pt_write 107 = .ok (.aload_n 0, 1) := by decide +kernel
theorem dc_Pt_write_108 : decode bc_Pt_write 108 = .ok (.getfield 18, 3) := by decide +kernel
theorem dc_Pt_write_111 : decode bc_Pt_write 111 = .ok (.getfield 56, 3) := by decide +kernel
theorem dc_Pt_write_114 : decode bc_Pt_write 114 = .ok (.ireturn, 1) := by decide +kernel
set_option maxHeartbeats 4000000 in
set_option maxRecDepth 100000 in
theorem ct_Pt_writeStep (l : Launch) (D : va_G) (cI cZ : ClassId) (sz : Nat) (o : Nat) (xt : Nat) (xo : Nat) (xd : Nat) (xc : Nat) (xs : Nat) (xr : Nat) (xa : Nat) (hf : Bool) (hp : Bool) (fb : Nat) (oa : Nat) (ot : Nat → Nat) (ca : Nat) (cb : Nat) (cd : Nat) (cn : Nat) (fz : Nat → Nat) (fs : Nat → Nat) (fl : Nat → Int32) (d : Bool) (jc : Nat) (L : List Nat) (hcn : cn ≤ 32) (hz : ∀ j, 1 ≤ j → j ≤ cn → fz j ≤ 8) (hj1 : 1 ≤ jc) (hj2 : jc ≤ cn) (hL : L.length + 28 ≤ 448) (hlits : ∀ j k, 1 ≤ j → j ≤ cn → k < fz j → ∃ b, b < 16 ∧ fl (j * 8 + k) = pt_lit b) : Met l yn_Pt_writeStep (Cond.code yn_Pt_writeStep bc_Pt_writeStep 5 none :: kx_all) ({ frames := 2, cells := 0, slots := 0, locals := 43 } : Room) (kp [.ref o, .int (kb_i d), .int (nI jc)] D cI cZ [pt_c o xt xo xd xc xs xr xa hf hp fb, tx_c xo oa L.length, ar_n cI oa 448 (pt_pn ot L), cl_c xc ca cb cd cn, ar_n cI ca 33 fz, ar_n cI cb 33 fs, ar_i cI cd (33 * 8) fl] sz) (kw_q none D kc_l [pt_c o xt xo xd xc xs xr xa hf hp fb, tx_c xo oa ((L ++ pt_line fl d jc (fz jc)).length), ar_n cI oa 448 (pt_pn ot (L ++ pt_line fl d jc (fz jc))), cl_c xc ca cb cd cn, ar_n cI ca 33 fz, ar_n cI cb 33 fs, ar_i cI cd (33 * 8) fl] (va_A [pt_c o xt xo xd xc xs xr xa hf hp fb, tx_c xo oa L.length, ar_n cI oa 448 (pt_pn ot L), cl_c xc ca cb cd cn, ar_n cI ca 33 fz, ar_n cI cb 33 fs, ar_i cI cd (33 * 8) fl] sz)) 0 0 (va_A [pt_c o xt xo xd xc xs xr xa hf hp fb, tx_c xo oa L.length, ar_n cI oa 448 (pt_pn ot L), cl_c xc ca cb cd cn, ar_n cI ca 33 fz, ar_n cI cb 33 fs, ar_i cI cd (33 * 8) fl] sz) := by
  refine kx_metW (by decide) (Nat.le_of_ble_eq_true rfl) ?_
  intro p e s m below meth c ls A hx hb hr hml hts hown hlocks hin hA hP hK hD hN hl hS
  have hown : s.vm.findClass rn_Pt = some m.cls := hown
  have hl : lv_has ls 5 [(0, .ref o), (1, .int (kb_i d)), (2, .int (nI jc))] := hl
  have hz8 := hz jc hj1 hj2
  refine lv_iload_n hx hb dc_Pt_writeStep_0 rfl (lv_at hl 1 rfl) ?_
  refine kb_if_eq hx hb dc_Pt_writeStep_1 rfl (fun hc1 => ?_) (fun hc1 => ?_)
  · refine lv_iconst (v := nI 0) hx hb dc_Pt_writeStep_22 (by decide +kernel) ?_
    refine lv_istore_n (lv' := [(3, .int (nI 0)), (0, .ref o), (1, .int (kb_i d)), (2, .int (nI jc))]) hx hb dc_Pt_writeStep_23 rfl hl (by decide) rfl (fun ls hl => ?_)
    have hLB : L ++ pt_hd d = L ++ [] := by rw [hc1]; rfl
    have hP : va_P D kc_l [pt_c o xt xo xd xc xs xr xa hf hp fb, tx_c xo oa ((L ++ [] ++ pt_chs fl (jc * 8) 0).length), ar_n cI oa 448 (pt_pn ot (L ++ [] ++ pt_chs fl (jc * 8) 0)), cl_c xc ca cb cd cn, ar_n cI ca 33 fz, ar_n cI cb 33 fs, ar_i cI cd (33 * 8) fl] s.heap := by rw [chs_z, List.append_nil]; exact hP
    have hD : va_D A [pt_c o xt xo xd xc xs xr xa hf hp fb, tx_c xo oa ((L ++ [] ++ pt_chs fl (jc * 8) 0).length), ar_n cI oa 448 (pt_pn ot (L ++ [] ++ pt_chs fl (jc * 8) 0)), cl_c xc ca cb cd cn, ar_n cI ca 33 fz, ar_n cI cb 33 fs, ar_i cI cd (33 * 8) fl] := by rw [chs_z, List.append_nil]; exact hD
    have lp_24 : ∀ (K : Nat) (k : Nat) (H : Heap) (locs : List Loc) (ls : Array Slot), fz jc - k < K → va_P D kc_l [pt_c o xt xo xd xc xs xr xa hf hp fb, tx_c xo oa ((L ++ [] ++ pt_chs fl (jc * 8) k).length), ar_n cI oa 448 (pt_pn ot (L ++ [] ++ pt_chs fl (jc * 8) k)), cl_c xc ca cb cd cn, ar_n cI ca 33 fz, ar_n cI cb 33 fs, ar_i cI cd (33 * 8) fl] H → va_D A [pt_c o xt xo xd xc xs xr xa hf hp fb, tx_c xo oa ((L ++ [] ++ pt_chs fl (jc * 8) k).length), ar_n cI oa 448 (pt_pn ot (L ++ [] ++ pt_chs fl (jc * 8) k)), cl_c xc ca cb cd cn, ar_n cI ca 33 fz, ar_n cI cb 33 fs, ar_i cI cd (33 * 8) fl] → va_S A s.heap H locs → lv_has ls 5 [(3, .int (nI k)), (0, .ref o), (1, .int (kb_i d)), (2, .int (nI jc))] → (k ≤ fz jc) → W p l e ({ frames := 2, cells := 0, slots := 0, locals := 43 } : Room) s m ([.ref o, .int (kb_i d), .int (nI jc)] : List Value).toArray below meth c H locs 0 0 (MQ below (kw_q none D kc_l [pt_c o xt xo xd xc xs xr xa hf hp fb, tx_c xo oa ((L ++ pt_line fl d jc (fz jc)).length), ar_n cI oa 448 (pt_pn ot (L ++ pt_line fl d jc (fz jc))), cl_c xc ca cb cd cn, ar_n cI ca 33 fz, ar_n cI cb 33 fs, ar_i cI cd (33 * 8) fl] A) ([.ref o, .int (kb_i d), .int (nI jc)] : List Value).toArray s 0 0 A) (F0 m 24 ls []) := by
      intro K
      induction K with
      | zero =>
        intro k H locs ls hk
        exact absurd hk (Nat.not_lt_zero _)
      | succ K ih_24 =>
        intro k H locs ls hk hP hD hS hl h3
        refine lv_iload_n hx hb dc_Pt_writeStep_24 rfl (lv_at hl 0 rfl) ?_
        refine lv_aload_n hx hb dc_Pt_writeStep_25 rfl (lv_at hl 1 rfl) ?_
        refine va_get (ci := 9) (v := .ref xc) (C := rn_Pt) (T := fd_Pt) (N := 10) hx hb hts in_Pt hown hK hP 0 rfl rfl 3 (by decide) (hts _ wd_187) (fun _ h9 => h9) rfl dc_Pt_writeStep_26 ?_
        refine va_getN (ci := 2) (v := .ref ca) (C := rn_Cl) (T := fd_Cl) (N := 4) hx hb hts in_Cl hown hK hP 3 rfl rfl 0 (by decide) (nf_67 hN) (fun _ h9 => h9) rfl dc_Pt_writeStep_29 ?_
        refine lv_iload_n hx hb dc_Pt_writeStep_32 rfl (lv_at hl 3 rfl) ?_
        refine ka_nald (t := fz) hx hb hK hP 4 0 rfl rfl (j := jc) (by omega) (by omega) dc_Pt_writeStep_33 ?_
        refine kn_icmp_ge hx hb (by omega) (by omega) dc_Pt_writeStep_34 rfl (fun hc34 => ?_) (fun hc34 => ?_)
        · have hl2 : (L ++ [] ++ pt_chs fl (jc * 8) k).length ≤ L.length + 2 + 3 * k := by
            rw [List.length_append, List.length_append]
            have := chs_len (fl := fl) (a := (jc * 8)) k
            have h9 : ([] : List Nat).length ≤ 2 := by decide
            omega
          have hk9 : k = fz jc := by omega
          rw [hk9] at hP hD hl2
          refine lv_aload_n hx hb dc_Pt_writeStep_92 rfl (lv_at hl 1 rfl) ?_
          refine va_get (ci := 9) (v := .ref xo) (C := rn_Pt) (T := fd_Pt) (N := 10) hx hb hts in_Pt hown hK hP 0 rfl rfl 1 (by decide) (hts _ wd_185) (fun _ h9 => h9) rfl dc_Pt_writeStep_93 ?_
          refine lv_bipush (v := nI 48) hx hb dc_Pt_writeStep_96 (by decide +kernel) ?_
          refine kw_call0 (wr := [pt_c o xt xo xd xc xs xr xa hf hp fb, cl_c xc ca cb cd cn, ar_n cI ca 33 fz, ar_n cI cb 33 fs, ar_i cI cd (33 * 8) fl]) (ws' := [pt_c o xt xo xd xc xs xr xa hf hp fb, tx_c xo oa (((L ++ [] ++ pt_chs fl (jc * 8) (fz jc)).length) + 1), ar_n cI oa 448 (va_up (pt_pn ot (L ++ [] ++ pt_chs fl (jc * 8) (fz jc))) ((L ++ [] ++ pt_chs fl (jc * 8) (fz jc)).length) 48), cl_c xc ca cb cd cn, ar_n cI ca 33 fz, ar_n cI cb 33 fs, ar_i cI cd (33 * 8) fl]) (va_runV (As := [.int (nI 48)]) (rest := []) ⟨hx, hb, hml, hown, hts⟩ (ct_Tx_put l D cI cZ _ xo oa 448 ((L ++ [] ++ pt_chs fl (jc * 8) (fz jc)).length) (pt_pn ot (L ++ [] ++ pt_chs fl (jc * 8) (fz jc))) 48 (by decide) (by omega)) (cwV 1 hts (kx_gV wd_219 wd_220 wd_221 wd_2 wd_222) rfl rfl rfl ⟨rfl, yd_Tx_put⟩ ⟨Nat.le_of_ble_eq_true rfl, Nat.le_of_ble_eq_true rfl⟩) (kp_V (q0 := 1) (ci := 0) hP hD hK hN [1, 2] rfl rfl rfl rfl rfl) rfl rfl hl.1 rfl (lv_room (Nat.le_of_ble_eq_true rfl)) dc_Pt_writeStep_98 ⟨Nat.le_of_ble_eq_true rfl, Nat.le_of_ble_eq_true rfl⟩) hP hD hS hA [1, 2] [0, 3, 4, 5, 6] [0, 5, 6, 1, 2, 3, 4] rfl rfl rfl (by decide) rfl rfl (fun H locs hP hD hS => ?_)
          have hP : va_P D kc_l [pt_c o xt xo xd xc xs xr xa hf hp fb, tx_c xo oa ((L ++ [] ++ pt_chs fl (jc * 8) (fz jc) ++ [48]).length), ar_n cI oa 448 (pt_pn ot (L ++ [] ++ pt_chs fl (jc * 8) (fz jc) ++ [48])), cl_c xc ca cb cd cn, ar_n cI ca 33 fz, ar_n cI cb 33 fs, ar_i cI cd (33 * 8) fl] H := by rw [← pn_s, ln_s]; exact hP
          have hD : va_D A [pt_c o xt xo xd xc xs xr xa hf hp fb, tx_c xo oa ((L ++ [] ++ pt_chs fl (jc * 8) (fz jc) ++ [48]).length), ar_n cI oa 448 (pt_pn ot (L ++ [] ++ pt_chs fl (jc * 8) (fz jc) ++ [48])), cl_c xc ca cb cd cn, ar_n cI ca 33 fz, ar_n cI cb 33 fs, ar_i cI cd (33 * 8) fl] := by rw [← pn_s, ln_s]; exact hD
          refine lv_aload_n hx hb dc_Pt_writeStep_101 rfl (lv_at hl 1 rfl) ?_
          refine va_get (ci := 9) (v := .ref xo) (C := rn_Pt) (T := fd_Pt) (N := 10) hx hb hts in_Pt hown hK hP 0 rfl rfl 1 (by decide) (hts _ wd_185) (fun _ h9 => h9) rfl dc_Pt_writeStep_102 ?_
          refine lv_bipush (v := nI 10) hx hb dc_Pt_writeStep_105 (by decide +kernel) ?_
          refine kw_call0 (wr := [pt_c o xt xo xd xc xs xr xa hf hp fb, cl_c xc ca cb cd cn, ar_n cI ca 33 fz, ar_n cI cb 33 fs, ar_i cI cd (33 * 8) fl]) (ws' := [pt_c o xt xo xd xc xs xr xa hf hp fb, tx_c xo oa (((L ++ [] ++ pt_chs fl (jc * 8) (fz jc) ++ [48]).length) + 1), ar_n cI oa 448 (va_up (pt_pn ot (L ++ [] ++ pt_chs fl (jc * 8) (fz jc) ++ [48])) ((L ++ [] ++ pt_chs fl (jc * 8) (fz jc) ++ [48]).length) 10), cl_c xc ca cb cd cn, ar_n cI ca 33 fz, ar_n cI cb 33 fs, ar_i cI cd (33 * 8) fl]) (va_runV (As := [.int (nI 10)]) (rest := []) ⟨hx, hb, hml, hown, hts⟩ (ct_Tx_put l D cI cZ _ xo oa 448 ((L ++ [] ++ pt_chs fl (jc * 8) (fz jc) ++ [48]).length) (pt_pn ot (L ++ [] ++ pt_chs fl (jc * 8) (fz jc) ++ [48])) 10 (by decide) (by simp only [ln_s]; omega)) (cwV 1 hts (kx_gV wd_219 wd_220 wd_221 wd_2 wd_222) rfl rfl rfl ⟨rfl, yd_Tx_put⟩ ⟨Nat.le_of_ble_eq_true rfl, Nat.le_of_ble_eq_true rfl⟩) (kp_V (q0 := 1) (ci := 0) hP hD hK hN [1, 2] rfl rfl rfl rfl rfl) rfl rfl hl.1 rfl (lv_room (Nat.le_of_ble_eq_true rfl)) dc_Pt_writeStep_107 ⟨Nat.le_of_ble_eq_true rfl, Nat.le_of_ble_eq_true rfl⟩) hP hD hS hA [1, 2] [0, 3, 4, 5, 6] [0, 5, 6, 1, 2, 3, 4] rfl rfl rfl (by decide) rfl rfl (fun H locs hP hD hS => ?_)
          have hP : va_P D kc_l [pt_c o xt xo xd xc xs xr xa hf hp fb, tx_c xo oa ((L ++ [] ++ pt_chs fl (jc * 8) (fz jc) ++ [48] ++ [10]).length), ar_n cI oa 448 (pt_pn ot (L ++ [] ++ pt_chs fl (jc * 8) (fz jc) ++ [48] ++ [10])), cl_c xc ca cb cd cn, ar_n cI ca 33 fz, ar_n cI cb 33 fs, ar_i cI cd (33 * 8) fl] H := by rw [← pn_s, ln_s]; exact hP
          have hD : va_D A [pt_c o xt xo xd xc xs xr xa hf hp fb, tx_c xo oa ((L ++ [] ++ pt_chs fl (jc * 8) (fz jc) ++ [48] ++ [10]).length), ar_n cI oa 448 (pt_pn ot (L ++ [] ++ pt_chs fl (jc * 8) (fz jc) ++ [48] ++ [10])), cl_c xc ca cb cd cn, ar_n cI ca 33 fz, ar_n cI cb 33 fs, ar_i cI cd (33 * 8) fl] := by rw [← pn_s, ln_s]; exact hD
          exact kw_vret hx hb hr hlocks hP hD hS dc_Pt_writeStep_110 (by rw [line_e hLB])
        · have hl2 : (L ++ [] ++ pt_chs fl (jc * 8) k).length ≤ L.length + 2 + 3 * k := by
            rw [List.length_append, List.length_append]
            have := chs_len (fl := fl) (a := (jc * 8)) k
            have h9 : ([] : List Nat).length ≤ 2 := by decide
            omega
          obtain ⟨b, hb16, hbe⟩ := hlits jc k hj1 hj2 (by omega)
          refine lv_aload_n hx hb dc_Pt_writeStep_37 rfl (lv_at hl 1 rfl) ?_
          refine va_get (ci := 9) (v := .ref xc) (C := rn_Pt) (T := fd_Pt) (N := 10) hx hb hts in_Pt hown hK hP 0 rfl rfl 3 (by decide) (hts _ wd_187) (fun _ h9 => h9) rfl dc_Pt_writeStep_38 ?_
          refine lv_iload_n hx hb dc_Pt_writeStep_41 rfl (lv_at hl 3 rfl) ?_
          refine lv_iload_n hx hb dc_Pt_writeStep_42 rfl (lv_at hl 0 rfl) ?_
          refine kr_call1 (va_runV (As := [.int (nI jc), .int (nI k)]) (rest := []) ⟨hx, hb, hml, hown, hts⟩ (ct_Cl_literalAt l D cI cZ _ xc ca cb cd 33 cn fz fs fl jc k (by omega) (by omega) (hz) (by omega) (by omega)) (cwV 2 hts (kx_gV wd_247 wd_248 wd_249 wd_4 wd_250) rfl rfl rfl ⟨rfl, yd_Cl_literalAt⟩ ⟨Nat.le_of_ble_eq_true rfl, Nat.le_of_ble_eq_true rfl⟩) (kp_V (q0 := 3) (ci := 2) hP hD hK hN [3, 4, 5, 6] rfl rfl rfl rfl rfl) rfl rfl hl.1 rfl (lv_room (Nat.le_of_ble_eq_true rfl)) dc_Pt_writeStep_43 ⟨Nat.le_of_ble_eq_true rfl, Nat.le_of_ble_eq_true rfl⟩) ?_
          refine kn_top (y := pt_lit b) ((if_pos ⟨⟨hj1, hj2⟩, by omega⟩).trans hbe) ?_
          by_cases hb8 : b < 8
          · refine kn_top (y := nI (b + 1)) (lit_ps hb8) ?_
            refine lv_istore (lv' := [(4, .int (nI (b + 1))), (3, .int (nI k)), (0, .ref o), (1, .int (kb_i d)), (2, .int (nI jc))]) hx hb dc_Pt_writeStep_46 hl (by decide) rfl (fun ls hl => ?_)
            refine lv_iload hx hb dc_Pt_writeStep_48 (lv_at hl 0 rfl) ?_
            refine lv_if_ge hx hb dc_Pt_writeStep_50 rfl (fun hc50 => ?_) (fun hc50 => ?_)
            · refine lv_aload_n hx hb dc_Pt_writeStep_62 rfl (lv_at hl 2 rfl) ?_
              refine va_get (ci := 9) (v := .ref xo) (C := rn_Pt) (T := fd_Pt) (N := 10) hx hb hts in_Pt hown hK hP 0 rfl rfl 1 (by decide) (hts _ wd_185) (fun _ h9 => h9) rfl dc_Pt_writeStep_63 ?_
              refine lv_bipush (v := nI 48) hx hb dc_Pt_writeStep_66 (by decide +kernel) ?_
              refine lv_iload hx hb dc_Pt_writeStep_68 (lv_at hl 0 rfl) ?_
              refine va_mabs hx hb (by rw [hml]; exact hl.1.symm) hown (hts _ wd_739) (hts _ wd_407) (hts _ wd_5) (hts _ wd_408) (Nat.le_of_ble_eq_true rfl) (Nat.le_of_ble_eq_true rfl) (Nat.le_of_ble_eq_true rfl) (Nat.le_of_ble_eq_true rfl) dc_Pt_writeStep_70 ?_
              refine kn_top (y := nI (b + 1)) (if_pos (nI_ge0 (by omega))) ?_
              refine kn_iadd hx hb dc_Pt_writeStep_73 ?_
              refine kw_call0 (wr := [pt_c o xt xo xd xc xs xr xa hf hp fb, cl_c xc ca cb cd cn, ar_n cI ca 33 fz, ar_n cI cb 33 fs, ar_i cI cd (33 * 8) fl]) (ws' := [pt_c o xt xo xd xc xs xr xa hf hp fb, tx_c xo oa (((L ++ [] ++ pt_chs fl (jc * 8) k).length) + 1), ar_n cI oa 448 (va_up (pt_pn ot (L ++ [] ++ pt_chs fl (jc * 8) k)) ((L ++ [] ++ pt_chs fl (jc * 8) k).length) (48 + (b + 1))), cl_c xc ca cb cd cn, ar_n cI ca 33 fz, ar_n cI cb 33 fs, ar_i cI cd (33 * 8) fl]) (va_runV (As := [.int (nI (48 + (b + 1)))]) (rest := []) ⟨hx, hb, hml, hown, hts⟩ (ct_Tx_put l D cI cZ _ xo oa 448 ((L ++ [] ++ pt_chs fl (jc * 8) k).length) (pt_pn ot (L ++ [] ++ pt_chs fl (jc * 8) k)) (48 + (b + 1)) (by decide) (by (try simp only [ln_s]); omega)) (cwV 1 hts (kx_gV wd_219 wd_220 wd_221 wd_2 wd_222) rfl rfl rfl ⟨rfl, yd_Tx_put⟩ ⟨Nat.le_of_ble_eq_true rfl, Nat.le_of_ble_eq_true rfl⟩) (kp_V (q0 := 1) (ci := 0) hP hD hK hN [1, 2] rfl rfl rfl rfl rfl) rfl rfl hl.1 rfl (lv_room (Nat.le_of_ble_eq_true rfl)) dc_Pt_writeStep_74 ⟨Nat.le_of_ble_eq_true rfl, Nat.le_of_ble_eq_true rfl⟩) hP hD hS hA [1, 2] [0, 3, 4, 5, 6] [0, 5, 6, 1, 2, 3, 4] rfl rfl rfl (by decide) rfl rfl (fun H locs hP hD hS => ?_)
              have hP : va_P D kc_l [pt_c o xt xo xd xc xs xr xa hf hp fb, tx_c xo oa ((L ++ [] ++ pt_chs fl (jc * 8) k ++ [48 + (b + 1)]).length), ar_n cI oa 448 (pt_pn ot (L ++ [] ++ pt_chs fl (jc * 8) k ++ [48 + (b + 1)])), cl_c xc ca cb cd cn, ar_n cI ca 33 fz, ar_n cI cb 33 fs, ar_i cI cd (33 * 8) fl] H := by rw [← pn_s, ln_s]; exact hP
              have hD : va_D A [pt_c o xt xo xd xc xs xr xa hf hp fb, tx_c xo oa ((L ++ [] ++ pt_chs fl (jc * 8) k ++ [48 + (b + 1)]).length), ar_n cI oa 448 (pt_pn ot (L ++ [] ++ pt_chs fl (jc * 8) k ++ [48 + (b + 1)])), cl_c xc ca cb cd cn, ar_n cI ca 33 fz, ar_n cI cb 33 fs, ar_i cI cd (33 * 8) fl] := by rw [← pn_s, ln_s]; exact hD
              refine lv_aload_n hx hb dc_Pt_writeStep_77 rfl (lv_at hl 2 rfl) ?_
              refine va_get (ci := 9) (v := .ref xo) (C := rn_Pt) (T := fd_Pt) (N := 10) hx hb hts in_Pt hown hK hP 0 rfl rfl 1 (by decide) (hts _ wd_185) (fun _ h9 => h9) rfl dc_Pt_writeStep_78 ?_
              refine lv_bipush (v := nI 32) hx hb dc_Pt_writeStep_81 (by decide +kernel) ?_
              refine kw_call0 (wr := [pt_c o xt xo xd xc xs xr xa hf hp fb, cl_c xc ca cb cd cn, ar_n cI ca 33 fz, ar_n cI cb 33 fs, ar_i cI cd (33 * 8) fl]) (ws' := [pt_c o xt xo xd xc xs xr xa hf hp fb, tx_c xo oa (((L ++ [] ++ pt_chs fl (jc * 8) k ++ [48 + (b + 1)]).length) + 1), ar_n cI oa 448 (va_up (pt_pn ot (L ++ [] ++ pt_chs fl (jc * 8) k ++ [48 + (b + 1)])) ((L ++ [] ++ pt_chs fl (jc * 8) k ++ [48 + (b + 1)]).length) 32), cl_c xc ca cb cd cn, ar_n cI ca 33 fz, ar_n cI cb 33 fs, ar_i cI cd (33 * 8) fl]) (va_runV (As := [.int (nI 32)]) (rest := []) ⟨hx, hb, hml, hown, hts⟩ (ct_Tx_put l D cI cZ _ xo oa 448 ((L ++ [] ++ pt_chs fl (jc * 8) k ++ [48 + (b + 1)]).length) (pt_pn ot (L ++ [] ++ pt_chs fl (jc * 8) k ++ [48 + (b + 1)])) 32 (by decide) (by simp only [ln_s]; omega)) (cwV 1 hts (kx_gV wd_219 wd_220 wd_221 wd_2 wd_222) rfl rfl rfl ⟨rfl, yd_Tx_put⟩ ⟨Nat.le_of_ble_eq_true rfl, Nat.le_of_ble_eq_true rfl⟩) (kp_V (q0 := 1) (ci := 0) hP hD hK hN [1, 2] rfl rfl rfl rfl rfl) rfl rfl hl.1 rfl (lv_room (Nat.le_of_ble_eq_true rfl)) dc_Pt_writeStep_83 ⟨Nat.le_of_ble_eq_true rfl, Nat.le_of_ble_eq_true rfl⟩) hP hD hS hA [1, 2] [0, 3, 4, 5, 6] [0, 5, 6, 1, 2, 3, 4] rfl rfl rfl (by decide) rfl rfl (fun H locs hP hD hS => ?_)
              have hP : va_P D kc_l [pt_c o xt xo xd xc xs xr xa hf hp fb, tx_c xo oa ((L ++ [] ++ pt_chs fl (jc * 8) k ++ [48 + (b + 1)] ++ [32]).length), ar_n cI oa 448 (pt_pn ot (L ++ [] ++ pt_chs fl (jc * 8) k ++ [48 + (b + 1)] ++ [32])), cl_c xc ca cb cd cn, ar_n cI ca 33 fz, ar_n cI cb 33 fs, ar_i cI cd (33 * 8) fl] H := by rw [← pn_s, ln_s]; exact hP
              have hD : va_D A [pt_c o xt xo xd xc xs xr xa hf hp fb, tx_c xo oa ((L ++ [] ++ pt_chs fl (jc * 8) k ++ [48 + (b + 1)] ++ [32]).length), ar_n cI oa 448 (pt_pn ot (L ++ [] ++ pt_chs fl (jc * 8) k ++ [48 + (b + 1)] ++ [32])), cl_c xc ca cb cd cn, ar_n cI ca 33 fz, ar_n cI cb 33 fs, ar_i cI cd (33 * 8) fl] := by rw [← pn_s, ln_s]; exact hD
              refine lv_iinc (k := 1) (v := nI (k + 1)) (lv' := [(3, .int (nI (k + 1))), (4, .int (nI (b + 1))), (0, .ref o), (1, .int (kb_i d)), (2, .int (nI jc))]) hx hb dc_Pt_writeStep_86 hl rfl (nI_1 _) (by decide) rfl (fun ls hl => ?_)
              refine lv_goto hx hb dc_Pt_writeStep_89 rfl ?_
              have hP : va_P D kc_l [pt_c o xt xo xd xc xs xr xa hf hp fb, tx_c xo oa ((L ++ [] ++ pt_chs fl (jc * 8) (k + 1)).length), ar_n cI oa 448 (pt_pn ot (L ++ [] ++ pt_chs fl (jc * 8) (k + 1))), cl_c xc ca cb cd cn, ar_n cI ca 33 fz, ar_n cI cb 33 fs, ar_i cI cd (33 * 8) fl] H := by rw [chs_p hbe hb8]; exact hP
              have hD : va_D A [pt_c o xt xo xd xc xs xr xa hf hp fb, tx_c xo oa ((L ++ [] ++ pt_chs fl (jc * 8) (k + 1)).length), ar_n cI oa 448 (pt_pn ot (L ++ [] ++ pt_chs fl (jc * 8) (k + 1))), cl_c xc ca cb cd cn, ar_n cI ca 33 fz, ar_n cI cb 33 fs, ar_i cI cd (33 * 8) fl] := by rw [chs_p hbe hb8]; exact hD
              have hl := lv_sub (l' := [(3, .int (nI (k + 1))), (0, .ref o), (1, .int (kb_i d)), (2, .int (nI jc))]) hl [0, 2, 3, 4] rfl
              exact ih_24 _ _ _ _ (by omega) hP hD hS hl (by omega)
            · exact absurd (nI_ge0 (by omega)) hc50
          · refine kn_top (y := -nI (b - 7)) (lit_ng (by omega)) ?_
            refine lv_istore (lv' := [(4, .int (-nI (b - 7))), (3, .int (nI k)), (0, .ref o), (1, .int (kb_i d)), (2, .int (nI jc))]) hx hb dc_Pt_writeStep_46 hl (by decide) rfl (fun ls hl => ?_)
            refine lv_iload hx hb dc_Pt_writeStep_48 (lv_at hl 0 rfl) ?_
            refine lv_if_ge hx hb dc_Pt_writeStep_50 rfl (fun hc50 => ?_) (fun hc50 => ?_)
            · exact absurd hc50 (lit_n0 b hb16 (by omega))
            · refine lv_aload_n hx hb dc_Pt_writeStep_53 rfl (lv_at hl 2 rfl) ?_
              refine va_get (ci := 9) (v := .ref xo) (C := rn_Pt) (T := fd_Pt) (N := 10) hx hb hts in_Pt hown hK hP 0 rfl rfl 1 (by decide) (hts _ wd_185) (fun _ h9 => h9) rfl dc_Pt_writeStep_54 ?_
              refine lv_bipush (v := nI 45) hx hb dc_Pt_writeStep_57 (by decide +kernel) ?_
              refine kw_call0 (wr := [pt_c o xt xo xd xc xs xr xa hf hp fb, cl_c xc ca cb cd cn, ar_n cI ca 33 fz, ar_n cI cb 33 fs, ar_i cI cd (33 * 8) fl]) (ws' := [pt_c o xt xo xd xc xs xr xa hf hp fb, tx_c xo oa (((L ++ [] ++ pt_chs fl (jc * 8) k).length) + 1), ar_n cI oa 448 (va_up (pt_pn ot (L ++ [] ++ pt_chs fl (jc * 8) k)) ((L ++ [] ++ pt_chs fl (jc * 8) k).length) 45), cl_c xc ca cb cd cn, ar_n cI ca 33 fz, ar_n cI cb 33 fs, ar_i cI cd (33 * 8) fl]) (va_runV (As := [.int (nI 45)]) (rest := []) ⟨hx, hb, hml, hown, hts⟩ (ct_Tx_put l D cI cZ _ xo oa 448 ((L ++ [] ++ pt_chs fl (jc * 8) k).length) (pt_pn ot (L ++ [] ++ pt_chs fl (jc * 8) k)) 45 (by decide) (by omega)) (cwV 1 hts (kx_gV wd_219 wd_220 wd_221 wd_2 wd_222) rfl rfl rfl ⟨rfl, yd_Tx_put⟩ ⟨Nat.le_of_ble_eq_true rfl, Nat.le_of_ble_eq_true rfl⟩) (kp_V (q0 := 1) (ci := 0) hP hD hK hN [1, 2] rfl rfl rfl rfl rfl) rfl rfl hl.1 rfl (lv_room (Nat.le_of_ble_eq_true rfl)) dc_Pt_writeStep_59 ⟨Nat.le_of_ble_eq_true rfl, Nat.le_of_ble_eq_true rfl⟩) hP hD hS hA [1, 2] [0, 3, 4, 5, 6] [0, 5, 6, 1, 2, 3, 4] rfl rfl rfl (by decide) rfl rfl (fun H locs hP hD hS => ?_)
              have hP : va_P D kc_l [pt_c o xt xo xd xc xs xr xa hf hp fb, tx_c xo oa ((L ++ [] ++ pt_chs fl (jc * 8) k ++ [45]).length), ar_n cI oa 448 (pt_pn ot (L ++ [] ++ pt_chs fl (jc * 8) k ++ [45])), cl_c xc ca cb cd cn, ar_n cI ca 33 fz, ar_n cI cb 33 fs, ar_i cI cd (33 * 8) fl] H := by rw [← pn_s, ln_s]; exact hP
              have hD : va_D A [pt_c o xt xo xd xc xs xr xa hf hp fb, tx_c xo oa ((L ++ [] ++ pt_chs fl (jc * 8) k ++ [45]).length), ar_n cI oa 448 (pt_pn ot (L ++ [] ++ pt_chs fl (jc * 8) k ++ [45])), cl_c xc ca cb cd cn, ar_n cI ca 33 fz, ar_n cI cb 33 fs, ar_i cI cd (33 * 8) fl] := by rw [← pn_s, ln_s]; exact hD
              refine lv_aload_n hx hb dc_Pt_writeStep_62 rfl (lv_at hl 2 rfl) ?_
              refine va_get (ci := 9) (v := .ref xo) (C := rn_Pt) (T := fd_Pt) (N := 10) hx hb hts in_Pt hown hK hP 0 rfl rfl 1 (by decide) (hts _ wd_185) (fun _ h9 => h9) rfl dc_Pt_writeStep_63 ?_
              refine lv_bipush (v := nI 48) hx hb dc_Pt_writeStep_66 (by decide +kernel) ?_
              refine lv_iload hx hb dc_Pt_writeStep_68 (lv_at hl 0 rfl) ?_
              refine va_mabs hx hb (by rw [hml]; exact hl.1.symm) hown (hts _ wd_739) (hts _ wd_407) (hts _ wd_5) (hts _ wd_408) (Nat.le_of_ble_eq_true rfl) (Nat.le_of_ble_eq_true rfl) (Nat.le_of_ble_eq_true rfl) (Nat.le_of_ble_eq_true rfl) dc_Pt_writeStep_70 ?_
              refine kn_top (y := nI (b - 7)) (abs_ng b hb16 (by omega)) ?_
              refine kn_iadd hx hb dc_Pt_writeStep_73 ?_
              refine kw_call0 (wr := [pt_c o xt xo xd xc xs xr xa hf hp fb, cl_c xc ca cb cd cn, ar_n cI ca 33 fz, ar_n cI cb 33 fs, ar_i cI cd (33 * 8) fl]) (ws' := [pt_c o xt xo xd xc xs xr xa hf hp fb, tx_c xo oa (((L ++ [] ++ pt_chs fl (jc * 8) k ++ [45]).length) + 1), ar_n cI oa 448 (va_up (pt_pn ot (L ++ [] ++ pt_chs fl (jc * 8) k ++ [45])) ((L ++ [] ++ pt_chs fl (jc * 8) k ++ [45]).length) (48 + (b - 7))), cl_c xc ca cb cd cn, ar_n cI ca 33 fz, ar_n cI cb 33 fs, ar_i cI cd (33 * 8) fl]) (va_runV (As := [.int (nI (48 + (b - 7)))]) (rest := []) ⟨hx, hb, hml, hown, hts⟩ (ct_Tx_put l D cI cZ _ xo oa 448 ((L ++ [] ++ pt_chs fl (jc * 8) k ++ [45]).length) (pt_pn ot (L ++ [] ++ pt_chs fl (jc * 8) k ++ [45])) (48 + (b - 7)) (by decide) (by (try simp only [ln_s]); omega)) (cwV 1 hts (kx_gV wd_219 wd_220 wd_221 wd_2 wd_222) rfl rfl rfl ⟨rfl, yd_Tx_put⟩ ⟨Nat.le_of_ble_eq_true rfl, Nat.le_of_ble_eq_true rfl⟩) (kp_V (q0 := 1) (ci := 0) hP hD hK hN [1, 2] rfl rfl rfl rfl rfl) rfl rfl hl.1 rfl (lv_room (Nat.le_of_ble_eq_true rfl)) dc_Pt_writeStep_74 ⟨Nat.le_of_ble_eq_true rfl, Nat.le_of_ble_eq_true rfl⟩) hP hD hS hA [1, 2] [0, 3, 4, 5, 6] [0, 5, 6, 1, 2, 3, 4] rfl rfl rfl (by decide) rfl rfl (fun H locs hP hD hS => ?_)
              have hP : va_P D kc_l [pt_c o xt xo xd xc xs xr xa hf hp fb, tx_c xo oa ((L ++ [] ++ pt_chs fl (jc * 8) k ++ [45] ++ [48 + (b - 7)]).length), ar_n cI oa 448 (pt_pn ot (L ++ [] ++ pt_chs fl (jc * 8) k ++ [45] ++ [48 + (b - 7)])), cl_c xc ca cb cd cn, ar_n cI ca 33 fz, ar_n cI cb 33 fs, ar_i cI cd (33 * 8) fl] H := by rw [← pn_s, ln_s]; exact hP
              have hD : va_D A [pt_c o xt xo xd xc xs xr xa hf hp fb, tx_c xo oa ((L ++ [] ++ pt_chs fl (jc * 8) k ++ [45] ++ [48 + (b - 7)]).length), ar_n cI oa 448 (pt_pn ot (L ++ [] ++ pt_chs fl (jc * 8) k ++ [45] ++ [48 + (b - 7)])), cl_c xc ca cb cd cn, ar_n cI ca 33 fz, ar_n cI cb 33 fs, ar_i cI cd (33 * 8) fl] := by rw [← pn_s, ln_s]; exact hD
              refine lv_aload_n hx hb dc_Pt_writeStep_77 rfl (lv_at hl 2 rfl) ?_
              refine va_get (ci := 9) (v := .ref xo) (C := rn_Pt) (T := fd_Pt) (N := 10) hx hb hts in_Pt hown hK hP 0 rfl rfl 1 (by decide) (hts _ wd_185) (fun _ h9 => h9) rfl dc_Pt_writeStep_78 ?_
              refine lv_bipush (v := nI 32) hx hb dc_Pt_writeStep_81 (by decide +kernel) ?_
              refine kw_call0 (wr := [pt_c o xt xo xd xc xs xr xa hf hp fb, cl_c xc ca cb cd cn, ar_n cI ca 33 fz, ar_n cI cb 33 fs, ar_i cI cd (33 * 8) fl]) (ws' := [pt_c o xt xo xd xc xs xr xa hf hp fb, tx_c xo oa (((L ++ [] ++ pt_chs fl (jc * 8) k ++ [45] ++ [48 + (b - 7)]).length) + 1), ar_n cI oa 448 (va_up (pt_pn ot (L ++ [] ++ pt_chs fl (jc * 8) k ++ [45] ++ [48 + (b - 7)])) ((L ++ [] ++ pt_chs fl (jc * 8) k ++ [45] ++ [48 + (b - 7)]).length) 32), cl_c xc ca cb cd cn, ar_n cI ca 33 fz, ar_n cI cb 33 fs, ar_i cI cd (33 * 8) fl]) (va_runV (As := [.int (nI 32)]) (rest := []) ⟨hx, hb, hml, hown, hts⟩ (ct_Tx_put l D cI cZ _ xo oa 448 ((L ++ [] ++ pt_chs fl (jc * 8) k ++ [45] ++ [48 + (b - 7)]).length) (pt_pn ot (L ++ [] ++ pt_chs fl (jc * 8) k ++ [45] ++ [48 + (b - 7)])) 32 (by decide) (by simp only [ln_s]; omega)) (cwV 1 hts (kx_gV wd_219 wd_220 wd_221 wd_2 wd_222) rfl rfl rfl ⟨rfl, yd_Tx_put⟩ ⟨Nat.le_of_ble_eq_true rfl, Nat.le_of_ble_eq_true rfl⟩) (kp_V (q0 := 1) (ci := 0) hP hD hK hN [1, 2] rfl rfl rfl rfl rfl) rfl rfl hl.1 rfl (lv_room (Nat.le_of_ble_eq_true rfl)) dc_Pt_writeStep_83 ⟨Nat.le_of_ble_eq_true rfl, Nat.le_of_ble_eq_true rfl⟩) hP hD hS hA [1, 2] [0, 3, 4, 5, 6] [0, 5, 6, 1, 2, 3, 4] rfl rfl rfl (by decide) rfl rfl (fun H locs hP hD hS => ?_)
              have hP : va_P D kc_l [pt_c o xt xo xd xc xs xr xa hf hp fb, tx_c xo oa ((L ++ [] ++ pt_chs fl (jc * 8) k ++ [45] ++ [48 + (b - 7)] ++ [32]).length), ar_n cI oa 448 (pt_pn ot (L ++ [] ++ pt_chs fl (jc * 8) k ++ [45] ++ [48 + (b - 7)] ++ [32])), cl_c xc ca cb cd cn, ar_n cI ca 33 fz, ar_n cI cb 33 fs, ar_i cI cd (33 * 8) fl] H := by rw [← pn_s, ln_s]; exact hP
              have hD : va_D A [pt_c o xt xo xd xc xs xr xa hf hp fb, tx_c xo oa ((L ++ [] ++ pt_chs fl (jc * 8) k ++ [45] ++ [48 + (b - 7)] ++ [32]).length), ar_n cI oa 448 (pt_pn ot (L ++ [] ++ pt_chs fl (jc * 8) k ++ [45] ++ [48 + (b - 7)] ++ [32])), cl_c xc ca cb cd cn, ar_n cI ca 33 fz, ar_n cI cb 33 fs, ar_i cI cd (33 * 8) fl] := by rw [← pn_s, ln_s]; exact hD
              refine lv_iinc (k := 1) (v := nI (k + 1)) (lv' := [(3, .int (nI (k + 1))), (4, .int (-nI (b - 7))), (0, .ref o), (1, .int (kb_i d)), (2, .int (nI jc))]) hx hb dc_Pt_writeStep_86 hl rfl (nI_1 _) (by decide) rfl (fun ls hl => ?_)
              refine lv_goto hx hb dc_Pt_writeStep_89 rfl ?_
              have hP : va_P D kc_l [pt_c o xt xo xd xc xs xr xa hf hp fb, tx_c xo oa ((L ++ [] ++ pt_chs fl (jc * 8) (k + 1)).length), ar_n cI oa 448 (pt_pn ot (L ++ [] ++ pt_chs fl (jc * 8) (k + 1))), cl_c xc ca cb cd cn, ar_n cI ca 33 fz, ar_n cI cb 33 fs, ar_i cI cd (33 * 8) fl] H := by rw [chs_n hbe hb16 (by omega)]; exact hP
              have hD : va_D A [pt_c o xt xo xd xc xs xr xa hf hp fb, tx_c xo oa ((L ++ [] ++ pt_chs fl (jc * 8) (k + 1)).length), ar_n cI oa 448 (pt_pn ot (L ++ [] ++ pt_chs fl (jc * 8) (k + 1))), cl_c xc ca cb cd cn, ar_n cI ca 33 fz, ar_n cI cb 33 fs, ar_i cI cd (33 * 8) fl] := by rw [chs_n hbe hb16 (by omega)]; exact hD
              have hl := lv_sub (l' := [(3, .int (nI (k + 1))), (0, .ref o), (1, .int (kb_i d)), (2, .int (nI jc))]) hl [0, 2, 3, 4] rfl
              exact ih_24 _ _ _ _ (by omega) hP hD hS hl (by omega)
    exact lp_24 _ 0 _ _ _ (Nat.lt_succ_self _) hP hD hS hl (by omega)
  · refine lv_aload_n hx hb dc_Pt_writeStep_4 rfl (lv_at hl 0 rfl) ?_
    refine va_get (ci := 9) (v := .ref xo) (C := rn_Pt) (T := fd_Pt) (N := 10) hx hb hts in_Pt hown hK hP 0 rfl rfl 1 (by decide) (hts _ wd_185) (fun _ h9 => h9) rfl dc_Pt_writeStep_5 ?_
    refine lv_bipush (v := nI 100) hx hb dc_Pt_writeStep_8 (by decide +kernel) ?_
    refine kw_call0 (wr := [pt_c o xt xo xd xc xs xr xa hf hp fb, cl_c xc ca cb cd cn, ar_n cI ca 33 fz, ar_n cI cb 33 fs, ar_i cI cd (33 * 8) fl]) (ws' := [pt_c o xt xo xd xc xs xr xa hf hp fb, tx_c xo oa (L.length + 1), ar_n cI oa 448 (va_up (pt_pn ot L) L.length 100), cl_c xc ca cb cd cn, ar_n cI ca 33 fz, ar_n cI cb 33 fs, ar_i cI cd (33 * 8) fl]) (va_runV (As := [.int (nI 100)]) (rest := []) ⟨hx, hb, hml, hown, hts⟩ (ct_Tx_put l D cI cZ _ xo oa 448 L.length (pt_pn ot L) 100 (by decide) (by omega)) (cwV 1 hts (kx_gV wd_219 wd_220 wd_221 wd_2 wd_222) rfl rfl rfl ⟨rfl, yd_Tx_put⟩ ⟨Nat.le_of_ble_eq_true rfl, Nat.le_of_ble_eq_true rfl⟩) (kp_V (q0 := 1) (ci := 0) hP hD hK hN [1, 2] rfl rfl rfl rfl rfl) rfl rfl hl.1 rfl (lv_room (Nat.le_of_ble_eq_true rfl)) dc_Pt_writeStep_10 ⟨Nat.le_of_ble_eq_true rfl, Nat.le_of_ble_eq_true rfl⟩) hP hD hS hA [1, 2] [0, 3, 4, 5, 6] [0, 5, 6, 1, 2, 3, 4] rfl rfl rfl (by decide) rfl rfl (fun H locs hP hD hS => ?_)
    have hP : va_P D kc_l [pt_c o xt xo xd xc xs xr xa hf hp fb, tx_c xo oa ((L ++ [100]).length), ar_n cI oa 448 (pt_pn ot (L ++ [100])), cl_c xc ca cb cd cn, ar_n cI ca 33 fz, ar_n cI cb 33 fs, ar_i cI cd (33 * 8) fl] H := by rw [← pn_s, ln_s]; exact hP
    have hD : va_D A [pt_c o xt xo xd xc xs xr xa hf hp fb, tx_c xo oa ((L ++ [100]).length), ar_n cI oa 448 (pt_pn ot (L ++ [100])), cl_c xc ca cb cd cn, ar_n cI ca 33 fz, ar_n cI cb 33 fs, ar_i cI cd (33 * 8) fl] := by rw [← pn_s, ln_s]; exact hD
    refine lv_aload_n hx hb dc_Pt_writeStep_13 rfl (lv_at hl 0 rfl) ?_
    refine va_get (ci := 9) (v := .ref xo) (C := rn_Pt) (T := fd_Pt) (N := 10) hx hb hts in_Pt hown hK hP 0 rfl rfl 1 (by decide) (hts _ wd_185) (fun _ h9 => h9) rfl dc_Pt_writeStep_14 ?_
    refine lv_bipush (v := nI 32) hx hb dc_Pt_writeStep_17 (by decide +kernel) ?_
    refine kw_call0 (wr := [pt_c o xt xo xd xc xs xr xa hf hp fb, cl_c xc ca cb cd cn, ar_n cI ca 33 fz, ar_n cI cb 33 fs, ar_i cI cd (33 * 8) fl]) (ws' := [pt_c o xt xo xd xc xs xr xa hf hp fb, tx_c xo oa (((L ++ [100]).length) + 1), ar_n cI oa 448 (va_up (pt_pn ot (L ++ [100])) ((L ++ [100]).length) 32), cl_c xc ca cb cd cn, ar_n cI ca 33 fz, ar_n cI cb 33 fs, ar_i cI cd (33 * 8) fl]) (va_runV (As := [.int (nI 32)]) (rest := []) ⟨hx, hb, hml, hown, hts⟩ (ct_Tx_put l D cI cZ _ xo oa 448 ((L ++ [100]).length) (pt_pn ot (L ++ [100])) 32 (by decide) (by simp only [ln_s]; omega)) (cwV 1 hts (kx_gV wd_219 wd_220 wd_221 wd_2 wd_222) rfl rfl rfl ⟨rfl, yd_Tx_put⟩ ⟨Nat.le_of_ble_eq_true rfl, Nat.le_of_ble_eq_true rfl⟩) (kp_V (q0 := 1) (ci := 0) hP hD hK hN [1, 2] rfl rfl rfl rfl rfl) rfl rfl hl.1 rfl (lv_room (Nat.le_of_ble_eq_true rfl)) dc_Pt_writeStep_19 ⟨Nat.le_of_ble_eq_true rfl, Nat.le_of_ble_eq_true rfl⟩) hP hD hS hA [1, 2] [0, 3, 4, 5, 6] [0, 5, 6, 1, 2, 3, 4] rfl rfl rfl (by decide) rfl rfl (fun H locs hP hD hS => ?_)
    have hP : va_P D kc_l [pt_c o xt xo xd xc xs xr xa hf hp fb, tx_c xo oa ((L ++ [100] ++ [32]).length), ar_n cI oa 448 (pt_pn ot (L ++ [100] ++ [32])), cl_c xc ca cb cd cn, ar_n cI ca 33 fz, ar_n cI cb 33 fs, ar_i cI cd (33 * 8) fl] H := by rw [← pn_s, ln_s]; exact hP
    have hD : va_D A [pt_c o xt xo xd xc xs xr xa hf hp fb, tx_c xo oa ((L ++ [100] ++ [32]).length), ar_n cI oa 448 (pt_pn ot (L ++ [100] ++ [32])), cl_c xc ca cb cd cn, ar_n cI ca 33 fz, ar_n cI cb 33 fs, ar_i cI cd (33 * 8) fl] := by rw [← pn_s, ln_s]; exact hD
    refine lv_iconst (v := nI 0) hx hb dc_Pt_writeStep_22 (by decide +kernel) ?_
    refine lv_istore_n (lv' := [(3, .int (nI 0)), (0, .ref o), (1, .int (kb_i d)), (2, .int (nI jc))]) hx hb dc_Pt_writeStep_23 rfl hl (by decide) rfl (fun ls hl => ?_)
    have hLB : L ++ pt_hd d = L ++ [100, 32] := by rw [hc1]; rfl
    have hP : va_P D kc_l [pt_c o xt xo xd xc xs xr xa hf hp fb, tx_c xo oa ((L ++ [100, 32] ++ pt_chs fl (jc * 8) 0).length), ar_n cI oa 448 (pt_pn ot (L ++ [100, 32] ++ pt_chs fl (jc * 8) 0)), cl_c xc ca cb cd cn, ar_n cI ca 33 fz, ar_n cI cb 33 fs, ar_i cI cd (33 * 8) fl] H := by rw [chs_z, app_2]; exact hP
    have hD : va_D A [pt_c o xt xo xd xc xs xr xa hf hp fb, tx_c xo oa ((L ++ [100, 32] ++ pt_chs fl (jc * 8) 0).length), ar_n cI oa 448 (pt_pn ot (L ++ [100, 32] ++ pt_chs fl (jc * 8) 0)), cl_c xc ca cb cd cn, ar_n cI ca 33 fz, ar_n cI cb 33 fs, ar_i cI cd (33 * 8) fl] := by rw [chs_z, app_2]; exact hD
    have lp_24 : ∀ (K : Nat) (k : Nat) (H : Heap) (locs : List Loc) (ls : Array Slot), fz jc - k < K → va_P D kc_l [pt_c o xt xo xd xc xs xr xa hf hp fb, tx_c xo oa ((L ++ [100, 32] ++ pt_chs fl (jc * 8) k).length), ar_n cI oa 448 (pt_pn ot (L ++ [100, 32] ++ pt_chs fl (jc * 8) k)), cl_c xc ca cb cd cn, ar_n cI ca 33 fz, ar_n cI cb 33 fs, ar_i cI cd (33 * 8) fl] H → va_D A [pt_c o xt xo xd xc xs xr xa hf hp fb, tx_c xo oa ((L ++ [100, 32] ++ pt_chs fl (jc * 8) k).length), ar_n cI oa 448 (pt_pn ot (L ++ [100, 32] ++ pt_chs fl (jc * 8) k)), cl_c xc ca cb cd cn, ar_n cI ca 33 fz, ar_n cI cb 33 fs, ar_i cI cd (33 * 8) fl] → va_S A s.heap H locs → lv_has ls 5 [(3, .int (nI k)), (0, .ref o), (1, .int (kb_i d)), (2, .int (nI jc))] → (k ≤ fz jc) → W p l e ({ frames := 2, cells := 0, slots := 0, locals := 43 } : Room) s m ([.ref o, .int (kb_i d), .int (nI jc)] : List Value).toArray below meth c H locs 0 0 (MQ below (kw_q none D kc_l [pt_c o xt xo xd xc xs xr xa hf hp fb, tx_c xo oa ((L ++ pt_line fl d jc (fz jc)).length), ar_n cI oa 448 (pt_pn ot (L ++ pt_line fl d jc (fz jc))), cl_c xc ca cb cd cn, ar_n cI ca 33 fz, ar_n cI cb 33 fs, ar_i cI cd (33 * 8) fl] A) ([.ref o, .int (kb_i d), .int (nI jc)] : List Value).toArray s 0 0 A) (F0 m 24 ls []) := by
      intro K
      induction K with
      | zero =>
        intro k H locs ls hk
        exact absurd hk (Nat.not_lt_zero _)
      | succ K ih_24 =>
        intro k H locs ls hk hP hD hS hl h3
        refine lv_iload_n hx hb dc_Pt_writeStep_24 rfl (lv_at hl 0 rfl) ?_
        refine lv_aload_n hx hb dc_Pt_writeStep_25 rfl (lv_at hl 1 rfl) ?_
        refine va_get (ci := 9) (v := .ref xc) (C := rn_Pt) (T := fd_Pt) (N := 10) hx hb hts in_Pt hown hK hP 0 rfl rfl 3 (by decide) (hts _ wd_187) (fun _ h9 => h9) rfl dc_Pt_writeStep_26 ?_
        refine va_getN (ci := 2) (v := .ref ca) (C := rn_Cl) (T := fd_Cl) (N := 4) hx hb hts in_Cl hown hK hP 3 rfl rfl 0 (by decide) (nf_67 hN) (fun _ h9 => h9) rfl dc_Pt_writeStep_29 ?_
        refine lv_iload_n hx hb dc_Pt_writeStep_32 rfl (lv_at hl 3 rfl) ?_
        refine ka_nald (t := fz) hx hb hK hP 4 0 rfl rfl (j := jc) (by omega) (by omega) dc_Pt_writeStep_33 ?_
        refine kn_icmp_ge hx hb (by omega) (by omega) dc_Pt_writeStep_34 rfl (fun hc34 => ?_) (fun hc34 => ?_)
        · have hl2 : (L ++ [100, 32] ++ pt_chs fl (jc * 8) k).length ≤ L.length + 2 + 3 * k := by
            rw [List.length_append, List.length_append]
            have := chs_len (fl := fl) (a := (jc * 8)) k
            have h9 : ([100, 32] : List Nat).length ≤ 2 := by decide
            omega
          have hk9 : k = fz jc := by omega
          rw [hk9] at hP hD hl2
          refine lv_aload_n hx hb dc_Pt_writeStep_92 rfl (lv_at hl 1 rfl) ?_
          refine va_get (ci := 9) (v := .ref xo) (C := rn_Pt) (T := fd_Pt) (N := 10) hx hb hts in_Pt hown hK hP 0 rfl rfl 1 (by decide) (hts _ wd_185) (fun _ h9 => h9) rfl dc_Pt_writeStep_93 ?_
          refine lv_bipush (v := nI 48) hx hb dc_Pt_writeStep_96 (by decide +kernel) ?_
          refine kw_call0 (wr := [pt_c o xt xo xd xc xs xr xa hf hp fb, cl_c xc ca cb cd cn, ar_n cI ca 33 fz, ar_n cI cb 33 fs, ar_i cI cd (33 * 8) fl]) (ws' := [pt_c o xt xo xd xc xs xr xa hf hp fb, tx_c xo oa (((L ++ [100, 32] ++ pt_chs fl (jc * 8) (fz jc)).length) + 1), ar_n cI oa 448 (va_up (pt_pn ot (L ++ [100, 32] ++ pt_chs fl (jc * 8) (fz jc))) ((L ++ [100, 32] ++ pt_chs fl (jc * 8) (fz jc)).length) 48), cl_c xc ca cb cd cn, ar_n cI ca 33 fz, ar_n cI cb 33 fs, ar_i cI cd (33 * 8) fl]) (va_runV (As := [.int (nI 48)]) (rest := []) ⟨hx, hb, hml, hown, hts⟩ (ct_Tx_put l D cI cZ _ xo oa 448 ((L ++ [100, 32] ++ pt_chs fl (jc * 8) (fz jc)).length) (pt_pn ot (L ++ [100, 32] ++ pt_chs fl (jc * 8) (fz jc))) 48 (by decide) (by omega)) (cwV 1 hts (kx_gV wd_219 wd_220 wd_221 wd_2 wd_222) rfl rfl rfl ⟨rfl, yd_Tx_put⟩ ⟨Nat.le_of_ble_eq_true rfl, Nat.le_of_ble_eq_true rfl⟩) (kp_V (q0 := 1) (ci := 0) hP hD hK hN [1, 2] rfl rfl rfl rfl rfl) rfl rfl hl.1 rfl (lv_room (Nat.le_of_ble_eq_true rfl)) dc_Pt_writeStep_98 ⟨Nat.le_of_ble_eq_true rfl, Nat.le_of_ble_eq_true rfl⟩) hP hD hS hA [1, 2] [0, 3, 4, 5, 6] [0, 5, 6, 1, 2, 3, 4] rfl rfl rfl (by decide) rfl rfl (fun H locs hP hD hS => ?_)
          have hP : va_P D kc_l [pt_c o xt xo xd xc xs xr xa hf hp fb, tx_c xo oa ((L ++ [100, 32] ++ pt_chs fl (jc * 8) (fz jc) ++ [48]).length), ar_n cI oa 448 (pt_pn ot (L ++ [100, 32] ++ pt_chs fl (jc * 8) (fz jc) ++ [48])), cl_c xc ca cb cd cn, ar_n cI ca 33 fz, ar_n cI cb 33 fs, ar_i cI cd (33 * 8) fl] H := by rw [← pn_s, ln_s]; exact hP
          have hD : va_D A [pt_c o xt xo xd xc xs xr xa hf hp fb, tx_c xo oa ((L ++ [100, 32] ++ pt_chs fl (jc * 8) (fz jc) ++ [48]).length), ar_n cI oa 448 (pt_pn ot (L ++ [100, 32] ++ pt_chs fl (jc * 8) (fz jc) ++ [48])), cl_c xc ca cb cd cn, ar_n cI ca 33 fz, ar_n cI cb 33 fs, ar_i cI cd (33 * 8) fl] := by rw [← pn_s, ln_s]; exact hD
          refine lv_aload_n hx hb dc_Pt_writeStep_101 rfl (lv_at hl 1 rfl) ?_
          refine va_get (ci := 9) (v := .ref xo) (C := rn_Pt) (T := fd_Pt) (N := 10) hx hb hts in_Pt hown hK hP 0 rfl rfl 1 (by decide) (hts _ wd_185) (fun _ h9 => h9) rfl dc_Pt_writeStep_102 ?_
          refine lv_bipush (v := nI 10) hx hb dc_Pt_writeStep_105 (by decide +kernel) ?_
          refine kw_call0 (wr := [pt_c o xt xo xd xc xs xr xa hf hp fb, cl_c xc ca cb cd cn, ar_n cI ca 33 fz, ar_n cI cb 33 fs, ar_i cI cd (33 * 8) fl]) (ws' := [pt_c o xt xo xd xc xs xr xa hf hp fb, tx_c xo oa (((L ++ [100, 32] ++ pt_chs fl (jc * 8) (fz jc) ++ [48]).length) + 1), ar_n cI oa 448 (va_up (pt_pn ot (L ++ [100, 32] ++ pt_chs fl (jc * 8) (fz jc) ++ [48])) ((L ++ [100, 32] ++ pt_chs fl (jc * 8) (fz jc) ++ [48]).length) 10), cl_c xc ca cb cd cn, ar_n cI ca 33 fz, ar_n cI cb 33 fs, ar_i cI cd (33 * 8) fl]) (va_runV (As := [.int (nI 10)]) (rest := []) ⟨hx, hb, hml, hown, hts⟩ (ct_Tx_put l D cI cZ _ xo oa 448 ((L ++ [100, 32] ++ pt_chs fl (jc * 8) (fz jc) ++ [48]).length) (pt_pn ot (L ++ [100, 32] ++ pt_chs fl (jc * 8) (fz jc) ++ [48])) 10 (by decide) (by simp only [ln_s]; omega)) (cwV 1 hts (kx_gV wd_219 wd_220 wd_221 wd_2 wd_222) rfl rfl rfl ⟨rfl, yd_Tx_put⟩ ⟨Nat.le_of_ble_eq_true rfl, Nat.le_of_ble_eq_true rfl⟩) (kp_V (q0 := 1) (ci := 0) hP hD hK hN [1, 2] rfl rfl rfl rfl rfl) rfl rfl hl.1 rfl (lv_room (Nat.le_of_ble_eq_true rfl)) dc_Pt_writeStep_107 ⟨Nat.le_of_ble_eq_true rfl, Nat.le_of_ble_eq_true rfl⟩) hP hD hS hA [1, 2] [0, 3, 4, 5, 6] [0, 5, 6, 1, 2, 3, 4] rfl rfl rfl (by decide) rfl rfl (fun H locs hP hD hS => ?_)
          have hP : va_P D kc_l [pt_c o xt xo xd xc xs xr xa hf hp fb, tx_c xo oa ((L ++ [100, 32] ++ pt_chs fl (jc * 8) (fz jc) ++ [48] ++ [10]).length), ar_n cI oa 448 (pt_pn ot (L ++ [100, 32] ++ pt_chs fl (jc * 8) (fz jc) ++ [48] ++ [10])), cl_c xc ca cb cd cn, ar_n cI ca 33 fz, ar_n cI cb 33 fs, ar_i cI cd (33 * 8) fl] H := by rw [← pn_s, ln_s]; exact hP
          have hD : va_D A [pt_c o xt xo xd xc xs xr xa hf hp fb, tx_c xo oa ((L ++ [100, 32] ++ pt_chs fl (jc * 8) (fz jc) ++ [48] ++ [10]).length), ar_n cI oa 448 (pt_pn ot (L ++ [100, 32] ++ pt_chs fl (jc * 8) (fz jc) ++ [48] ++ [10])), cl_c xc ca cb cd cn, ar_n cI ca 33 fz, ar_n cI cb 33 fs, ar_i cI cd (33 * 8) fl] := by rw [← pn_s, ln_s]; exact hD
          exact kw_vret hx hb hr hlocks hP hD hS dc_Pt_writeStep_110 (by rw [line_e hLB])
        · have hl2 : (L ++ [100, 32] ++ pt_chs fl (jc * 8) k).length ≤ L.length + 2 + 3 * k := by
            rw [List.length_append, List.length_append]
            have := chs_len (fl := fl) (a := (jc * 8)) k
            have h9 : ([100, 32] : List Nat).length ≤ 2 := by decide
            omega
          obtain ⟨b, hb16, hbe⟩ := hlits jc k hj1 hj2 (by omega)
          refine lv_aload_n hx hb dc_Pt_writeStep_37 rfl (lv_at hl 1 rfl) ?_
          refine va_get (ci := 9) (v := .ref xc) (C := rn_Pt) (T := fd_Pt) (N := 10) hx hb hts in_Pt hown hK hP 0 rfl rfl 3 (by decide) (hts _ wd_187) (fun _ h9 => h9) rfl dc_Pt_writeStep_38 ?_
          refine lv_iload_n hx hb dc_Pt_writeStep_41 rfl (lv_at hl 3 rfl) ?_
          refine lv_iload_n hx hb dc_Pt_writeStep_42 rfl (lv_at hl 0 rfl) ?_
          refine kr_call1 (va_runV (As := [.int (nI jc), .int (nI k)]) (rest := []) ⟨hx, hb, hml, hown, hts⟩ (ct_Cl_literalAt l D cI cZ _ xc ca cb cd 33 cn fz fs fl jc k (by omega) (by omega) (hz) (by omega) (by omega)) (cwV 2 hts (kx_gV wd_247 wd_248 wd_249 wd_4 wd_250) rfl rfl rfl ⟨rfl, yd_Cl_literalAt⟩ ⟨Nat.le_of_ble_eq_true rfl, Nat.le_of_ble_eq_true rfl⟩) (kp_V (q0 := 3) (ci := 2) hP hD hK hN [3, 4, 5, 6] rfl rfl rfl rfl rfl) rfl rfl hl.1 rfl (lv_room (Nat.le_of_ble_eq_true rfl)) dc_Pt_writeStep_43 ⟨Nat.le_of_ble_eq_true rfl, Nat.le_of_ble_eq_true rfl⟩) ?_
          refine kn_top (y := pt_lit b) ((if_pos ⟨⟨hj1, hj2⟩, by omega⟩).trans hbe) ?_
          by_cases hb8 : b < 8
          · refine kn_top (y := nI (b + 1)) (lit_ps hb8) ?_
            refine lv_istore (lv' := [(4, .int (nI (b + 1))), (3, .int (nI k)), (0, .ref o), (1, .int (kb_i d)), (2, .int (nI jc))]) hx hb dc_Pt_writeStep_46 hl (by decide) rfl (fun ls hl => ?_)
            refine lv_iload hx hb dc_Pt_writeStep_48 (lv_at hl 0 rfl) ?_
            refine lv_if_ge hx hb dc_Pt_writeStep_50 rfl (fun hc50 => ?_) (fun hc50 => ?_)
            · refine lv_aload_n hx hb dc_Pt_writeStep_62 rfl (lv_at hl 2 rfl) ?_
              refine va_get (ci := 9) (v := .ref xo) (C := rn_Pt) (T := fd_Pt) (N := 10) hx hb hts in_Pt hown hK hP 0 rfl rfl 1 (by decide) (hts _ wd_185) (fun _ h9 => h9) rfl dc_Pt_writeStep_63 ?_
              refine lv_bipush (v := nI 48) hx hb dc_Pt_writeStep_66 (by decide +kernel) ?_
              refine lv_iload hx hb dc_Pt_writeStep_68 (lv_at hl 0 rfl) ?_
              refine va_mabs hx hb (by rw [hml]; exact hl.1.symm) hown (hts _ wd_739) (hts _ wd_407) (hts _ wd_5) (hts _ wd_408) (Nat.le_of_ble_eq_true rfl) (Nat.le_of_ble_eq_true rfl) (Nat.le_of_ble_eq_true rfl) (Nat.le_of_ble_eq_true rfl) dc_Pt_writeStep_70 ?_
              refine kn_top (y := nI (b + 1)) (if_pos (nI_ge0 (by omega))) ?_
              refine kn_iadd hx hb dc_Pt_writeStep_73 ?_
              refine kw_call0 (wr := [pt_c o xt xo xd xc xs xr xa hf hp fb, cl_c xc ca cb cd cn, ar_n cI ca 33 fz, ar_n cI cb 33 fs, ar_i cI cd (33 * 8) fl]) (ws' := [pt_c o xt xo xd xc xs xr xa hf hp fb, tx_c xo oa (((L ++ [100, 32] ++ pt_chs fl (jc * 8) k).length) + 1), ar_n cI oa 448 (va_up (pt_pn ot (L ++ [100, 32] ++ pt_chs fl (jc * 8) k)) ((L ++ [100, 32] ++ pt_chs fl (jc * 8) k).length) (48 + (b + 1))), cl_c xc ca cb cd cn, ar_n cI ca 33 fz, ar_n cI cb 33 fs, ar_i cI cd (33 * 8) fl]) (va_runV (As := [.int (nI (48 + (b + 1)))]) (rest := []) ⟨hx, hb, hml, hown, hts⟩ (ct_Tx_put l D cI cZ _ xo oa 448 ((L ++ [100, 32] ++ pt_chs fl (jc * 8) k).length) (pt_pn ot (L ++ [100, 32] ++ pt_chs fl (jc * 8) k)) (48 + (b + 1)) (by decide) (by (try simp only [ln_s]); omega)) (cwV 1 hts (kx_gV wd_219 wd_220 wd_221 wd_2 wd_222) rfl rfl rfl ⟨rfl, yd_Tx_put⟩ ⟨Nat.le_of_ble_eq_true rfl, Nat.le_of_ble_eq_true rfl⟩) (kp_V (q0 := 1) (ci := 0) hP hD hK hN [1, 2] rfl rfl rfl rfl rfl) rfl rfl hl.1 rfl (lv_room (Nat.le_of_ble_eq_true rfl)) dc_Pt_writeStep_74 ⟨Nat.le_of_ble_eq_true rfl, Nat.le_of_ble_eq_true rfl⟩) hP hD hS hA [1, 2] [0, 3, 4, 5, 6] [0, 5, 6, 1, 2, 3, 4] rfl rfl rfl (by decide) rfl rfl (fun H locs hP hD hS => ?_)
              have hP : va_P D kc_l [pt_c o xt xo xd xc xs xr xa hf hp fb, tx_c xo oa ((L ++ [100, 32] ++ pt_chs fl (jc * 8) k ++ [48 + (b + 1)]).length), ar_n cI oa 448 (pt_pn ot (L ++ [100, 32] ++ pt_chs fl (jc * 8) k ++ [48 + (b + 1)])), cl_c xc ca cb cd cn, ar_n cI ca 33 fz, ar_n cI cb 33 fs, ar_i cI cd (33 * 8) fl] H := by rw [← pn_s, ln_s]; exact hP
              have hD : va_D A [pt_c o xt xo xd xc xs xr xa hf hp fb, tx_c xo oa ((L ++ [100, 32] ++ pt_chs fl (jc * 8) k ++ [48 + (b + 1)]).length), ar_n cI oa 448 (pt_pn ot (L ++ [100, 32] ++ pt_chs fl (jc * 8) k ++ [48 + (b + 1)])), cl_c xc ca cb cd cn, ar_n cI ca 33 fz, ar_n cI cb 33 fs, ar_i cI cd (33 * 8) fl] := by rw [← pn_s, ln_s]; exact hD
              refine lv_aload_n hx hb dc_Pt_writeStep_77 rfl (lv_at hl 2 rfl) ?_
              refine va_get (ci := 9) (v := .ref xo) (C := rn_Pt) (T := fd_Pt) (N := 10) hx hb hts in_Pt hown hK hP 0 rfl rfl 1 (by decide) (hts _ wd_185) (fun _ h9 => h9) rfl dc_Pt_writeStep_78 ?_
              refine lv_bipush (v := nI 32) hx hb dc_Pt_writeStep_81 (by decide +kernel) ?_
              refine kw_call0 (wr := [pt_c o xt xo xd xc xs xr xa hf hp fb, cl_c xc ca cb cd cn, ar_n cI ca 33 fz, ar_n cI cb 33 fs, ar_i cI cd (33 * 8) fl]) (ws' := [pt_c o xt xo xd xc xs xr xa hf hp fb, tx_c xo oa (((L ++ [100, 32] ++ pt_chs fl (jc * 8) k ++ [48 + (b + 1)]).length) + 1), ar_n cI oa 448 (va_up (pt_pn ot (L ++ [100, 32] ++ pt_chs fl (jc * 8) k ++ [48 + (b + 1)])) ((L ++ [100, 32] ++ pt_chs fl (jc * 8) k ++ [48 + (b + 1)]).length) 32), cl_c xc ca cb cd cn, ar_n cI ca 33 fz, ar_n cI cb 33 fs, ar_i cI cd (33 * 8) fl]) (va_runV (As := [.int (nI 32)]) (rest := []) ⟨hx, hb, hml, hown, hts⟩ (ct_Tx_put l D cI cZ _ xo oa 448 ((L ++ [100, 32] ++ pt_chs fl (jc * 8) k ++ [48 + (b + 1)]).length) (pt_pn ot (L ++ [100, 32] ++ pt_chs fl (jc * 8) k ++ [48 + (b + 1)])) 32 (by decide) (by simp only [ln_s]; omega)) (cwV 1 hts (kx_gV wd_219 wd_220 wd_221 wd_2 wd_222) rfl rfl rfl ⟨rfl, yd_Tx_put⟩ ⟨Nat.le_of_ble_eq_true rfl, Nat.le_of_ble_eq_true rfl⟩) (kp_V (q0 := 1) (ci := 0) hP hD hK hN [1, 2] rfl rfl rfl rfl rfl) rfl rfl hl.1 rfl (lv_room (Nat.le_of_ble_eq_true rfl)) dc_Pt_writeStep_83 ⟨Nat.le_of_ble_eq_true rfl, Nat.le_of_ble_eq_true rfl⟩) hP hD hS hA [1, 2] [0, 3, 4, 5, 6] [0, 5, 6, 1, 2, 3, 4] rfl rfl rfl (by decide) rfl rfl (fun H locs hP hD hS => ?_)
              have hP : va_P D kc_l [pt_c o xt xo xd xc xs xr xa hf hp fb, tx_c xo oa ((L ++ [100, 32] ++ pt_chs fl (jc * 8) k ++ [48 + (b + 1)] ++ [32]).length), ar_n cI oa 448 (pt_pn ot (L ++ [100, 32] ++ pt_chs fl (jc * 8) k ++ [48 + (b + 1)] ++ [32])), cl_c xc ca cb cd cn, ar_n cI ca 33 fz, ar_n cI cb 33 fs, ar_i cI cd (33 * 8) fl] H := by rw [← pn_s, ln_s]; exact hP
              have hD : va_D A [pt_c o xt xo xd xc xs xr xa hf hp fb, tx_c xo oa ((L ++ [100, 32] ++ pt_chs fl (jc * 8) k ++ [48 + (b + 1)] ++ [32]).length), ar_n cI oa 448 (pt_pn ot (L ++ [100, 32] ++ pt_chs fl (jc * 8) k ++ [48 + (b + 1)] ++ [32])), cl_c xc ca cb cd cn, ar_n cI ca 33 fz, ar_n cI cb 33 fs, ar_i cI cd (33 * 8) fl] := by rw [← pn_s, ln_s]; exact hD
              refine lv_iinc (k := 1) (v := nI (k + 1)) (lv' := [(3, .int (nI (k + 1))), (4, .int (nI (b + 1))), (0, .ref o), (1, .int (kb_i d)), (2, .int (nI jc))]) hx hb dc_Pt_writeStep_86 hl rfl (nI_1 _) (by decide) rfl (fun ls hl => ?_)
              refine lv_goto hx hb dc_Pt_writeStep_89 rfl ?_
              have hP : va_P D kc_l [pt_c o xt xo xd xc xs xr xa hf hp fb, tx_c xo oa ((L ++ [100, 32] ++ pt_chs fl (jc * 8) (k + 1)).length), ar_n cI oa 448 (pt_pn ot (L ++ [100, 32] ++ pt_chs fl (jc * 8) (k + 1))), cl_c xc ca cb cd cn, ar_n cI ca 33 fz, ar_n cI cb 33 fs, ar_i cI cd (33 * 8) fl] H := by rw [chs_p hbe hb8]; exact hP
              have hD : va_D A [pt_c o xt xo xd xc xs xr xa hf hp fb, tx_c xo oa ((L ++ [100, 32] ++ pt_chs fl (jc * 8) (k + 1)).length), ar_n cI oa 448 (pt_pn ot (L ++ [100, 32] ++ pt_chs fl (jc * 8) (k + 1))), cl_c xc ca cb cd cn, ar_n cI ca 33 fz, ar_n cI cb 33 fs, ar_i cI cd (33 * 8) fl] := by rw [chs_p hbe hb8]; exact hD
              have hl := lv_sub (l' := [(3, .int (nI (k + 1))), (0, .ref o), (1, .int (kb_i d)), (2, .int (nI jc))]) hl [0, 2, 3, 4] rfl
              exact ih_24 _ _ _ _ (by omega) hP hD hS hl (by omega)
            · exact absurd (nI_ge0 (by omega)) hc50
          · refine kn_top (y := -nI (b - 7)) (lit_ng (by omega)) ?_
            refine lv_istore (lv' := [(4, .int (-nI (b - 7))), (3, .int (nI k)), (0, .ref o), (1, .int (kb_i d)), (2, .int (nI jc))]) hx hb dc_Pt_writeStep_46 hl (by decide) rfl (fun ls hl => ?_)
            refine lv_iload hx hb dc_Pt_writeStep_48 (lv_at hl 0 rfl) ?_
            refine lv_if_ge hx hb dc_Pt_writeStep_50 rfl (fun hc50 => ?_) (fun hc50 => ?_)
            · exact absurd hc50 (lit_n0 b hb16 (by omega))
            · refine lv_aload_n hx hb dc_Pt_writeStep_53 rfl (lv_at hl 2 rfl) ?_
              refine va_get (ci := 9) (v := .ref xo) (C := rn_Pt) (T := fd_Pt) (N := 10) hx hb hts in_Pt hown hK hP 0 rfl rfl 1 (by decide) (hts _ wd_185) (fun _ h9 => h9) rfl dc_Pt_writeStep_54 ?_
              refine lv_bipush (v := nI 45) hx hb dc_Pt_writeStep_57 (by decide +kernel) ?_
              refine kw_call0 (wr := [pt_c o xt xo xd xc xs xr xa hf hp fb, cl_c xc ca cb cd cn, ar_n cI ca 33 fz, ar_n cI cb 33 fs, ar_i cI cd (33 * 8) fl]) (ws' := [pt_c o xt xo xd xc xs xr xa hf hp fb, tx_c xo oa (((L ++ [100, 32] ++ pt_chs fl (jc * 8) k).length) + 1), ar_n cI oa 448 (va_up (pt_pn ot (L ++ [100, 32] ++ pt_chs fl (jc * 8) k)) ((L ++ [100, 32] ++ pt_chs fl (jc * 8) k).length) 45), cl_c xc ca cb cd cn, ar_n cI ca 33 fz, ar_n cI cb 33 fs, ar_i cI cd (33 * 8) fl]) (va_runV (As := [.int (nI 45)]) (rest := []) ⟨hx, hb, hml, hown, hts⟩ (ct_Tx_put l D cI cZ _ xo oa 448 ((L ++ [100, 32] ++ pt_chs fl (jc * 8) k).length) (pt_pn ot (L ++ [100, 32] ++ pt_chs fl (jc * 8) k)) 45 (by decide) (by omega)) (cwV 1 hts (kx_gV wd_219 wd_220 wd_221 wd_2 wd_222) rfl rfl rfl ⟨rfl, yd_Tx_put⟩ ⟨Nat.le_of_ble_eq_true rfl, Nat.le_of_ble_eq_true rfl⟩) (kp_V (q0 := 1) (ci := 0) hP hD hK hN [1, 2] rfl rfl rfl rfl rfl) rfl rfl hl.1 rfl (lv_room (Nat.le_of_ble_eq_true rfl)) dc_Pt_writeStep_59 ⟨Nat.le_of_ble_eq_true rfl, Nat.le_of_ble_eq_true rfl⟩) hP hD hS hA [1, 2] [0, 3, 4, 5, 6] [0, 5, 6, 1, 2, 3, 4] rfl rfl rfl (by decide) rfl rfl (fun H locs hP hD hS => ?_)
              have hP : va_P D kc_l [pt_c o xt xo xd xc xs xr xa hf hp fb, tx_c xo oa ((L ++ [100, 32] ++ pt_chs fl (jc * 8) k ++ [45]).length), ar_n cI oa 448 (pt_pn ot (L ++ [100, 32] ++ pt_chs fl (jc * 8) k ++ [45])), cl_c xc ca cb cd cn, ar_n cI ca 33 fz, ar_n cI cb 33 fs, ar_i cI cd (33 * 8) fl] H := by rw [← pn_s, ln_s]; exact hP
              have hD : va_D A [pt_c o xt xo xd xc xs xr xa hf hp fb, tx_c xo oa ((L ++ [100, 32] ++ pt_chs fl (jc * 8) k ++ [45]).length), ar_n cI oa 448 (pt_pn ot (L ++ [100, 32] ++ pt_chs fl (jc * 8) k ++ [45])), cl_c xc ca cb cd cn, ar_n cI ca 33 fz, ar_n cI cb 33 fs, ar_i cI cd (33 * 8) fl] := by rw [← pn_s, ln_s]; exact hD
              refine lv_aload_n hx hb dc_Pt_writeStep_62 rfl (lv_at hl 2 rfl) ?_
              refine va_get (ci := 9) (v := .ref xo) (C := rn_Pt) (T := fd_Pt) (N := 10) hx hb hts in_Pt hown hK hP 0 rfl rfl 1 (by decide) (hts _ wd_185) (fun _ h9 => h9) rfl dc_Pt_writeStep_63 ?_
              refine lv_bipush (v := nI 48) hx hb dc_Pt_writeStep_66 (by decide +kernel) ?_
              refine lv_iload hx hb dc_Pt_writeStep_68 (lv_at hl 0 rfl) ?_
              refine va_mabs hx hb (by rw [hml]; exact hl.1.symm) hown (hts _ wd_739) (hts _ wd_407) (hts _ wd_5) (hts _ wd_408) (Nat.le_of_ble_eq_true rfl) (Nat.le_of_ble_eq_true rfl) (Nat.le_of_ble_eq_true rfl) (Nat.le_of_ble_eq_true rfl) dc_Pt_writeStep_70 ?_
              refine kn_top (y := nI (b - 7)) (abs_ng b hb16 (by omega)) ?_
              refine kn_iadd hx hb dc_Pt_writeStep_73 ?_
              refine kw_call0 (wr := [pt_c o xt xo xd xc xs xr xa hf hp fb, cl_c xc ca cb cd cn, ar_n cI ca 33 fz, ar_n cI cb 33 fs, ar_i cI cd (33 * 8) fl]) (ws' := [pt_c o xt xo xd xc xs xr xa hf hp fb, tx_c xo oa (((L ++ [100, 32] ++ pt_chs fl (jc * 8) k ++ [45]).length) + 1), ar_n cI oa 448 (va_up (pt_pn ot (L ++ [100, 32] ++ pt_chs fl (jc * 8) k ++ [45])) ((L ++ [100, 32] ++ pt_chs fl (jc * 8) k ++ [45]).length) (48 + (b - 7))), cl_c xc ca cb cd cn, ar_n cI ca 33 fz, ar_n cI cb 33 fs, ar_i cI cd (33 * 8) fl]) (va_runV (As := [.int (nI (48 + (b - 7)))]) (rest := []) ⟨hx, hb, hml, hown, hts⟩ (ct_Tx_put l D cI cZ _ xo oa 448 ((L ++ [100, 32] ++ pt_chs fl (jc * 8) k ++ [45]).length) (pt_pn ot (L ++ [100, 32] ++ pt_chs fl (jc * 8) k ++ [45])) (48 + (b - 7)) (by decide) (by (try simp only [ln_s]); omega)) (cwV 1 hts (kx_gV wd_219 wd_220 wd_221 wd_2 wd_222) rfl rfl rfl ⟨rfl, yd_Tx_put⟩ ⟨Nat.le_of_ble_eq_true rfl, Nat.le_of_ble_eq_true rfl⟩) (kp_V (q0 := 1) (ci := 0) hP hD hK hN [1, 2] rfl rfl rfl rfl rfl) rfl rfl hl.1 rfl (lv_room (Nat.le_of_ble_eq_true rfl)) dc_Pt_writeStep_74 ⟨Nat.le_of_ble_eq_true rfl, Nat.le_of_ble_eq_true rfl⟩) hP hD hS hA [1, 2] [0, 3, 4, 5, 6] [0, 5, 6, 1, 2, 3, 4] rfl rfl rfl (by decide) rfl rfl (fun H locs hP hD hS => ?_)
              have hP : va_P D kc_l [pt_c o xt xo xd xc xs xr xa hf hp fb, tx_c xo oa ((L ++ [100, 32] ++ pt_chs fl (jc * 8) k ++ [45] ++ [48 + (b - 7)]).length), ar_n cI oa 448 (pt_pn ot (L ++ [100, 32] ++ pt_chs fl (jc * 8) k ++ [45] ++ [48 + (b - 7)])), cl_c xc ca cb cd cn, ar_n cI ca 33 fz, ar_n cI cb 33 fs, ar_i cI cd (33 * 8) fl] H := by rw [← pn_s, ln_s]; exact hP
              have hD : va_D A [pt_c o xt xo xd xc xs xr xa hf hp fb, tx_c xo oa ((L ++ [100, 32] ++ pt_chs fl (jc * 8) k ++ [45] ++ [48 + (b - 7)]).length), ar_n cI oa 448 (pt_pn ot (L ++ [100, 32] ++ pt_chs fl (jc * 8) k ++ [45] ++ [48 + (b - 7)])), cl_c xc ca cb cd cn, ar_n cI ca 33 fz, ar_n cI cb 33 fs, ar_i cI cd (33 * 8) fl] := by rw [← pn_s, ln_s]; exact hD
              refine lv_aload_n hx hb dc_Pt_writeStep_77 rfl (lv_at hl 2 rfl) ?_
              refine va_get (ci := 9) (v := .ref xo) (C := rn_Pt) (T := fd_Pt) (N := 10) hx hb hts in_Pt hown hK hP 0 rfl rfl 1 (by decide) (hts _ wd_185) (fun _ h9 => h9) rfl dc_Pt_writeStep_78 ?_
              refine lv_bipush (v := nI 32) hx hb dc_Pt_writeStep_81 (by decide +kernel) ?_
              refine kw_call0 (wr := [pt_c o xt xo xd xc xs xr xa hf hp fb, cl_c xc ca cb cd cn, ar_n cI ca 33 fz, ar_n cI cb 33 fs, ar_i cI cd (33 * 8) fl]) (ws' := [pt_c o xt xo xd xc xs xr xa hf hp fb, tx_c xo oa (((L ++ [100, 32] ++ pt_chs fl (jc * 8) k ++ [45] ++ [48 + (b - 7)]).length) + 1), ar_n cI oa 448 (va_up (pt_pn ot (L ++ [100, 32] ++ pt_chs fl (jc * 8) k ++ [45] ++ [48 + (b - 7)])) ((L ++ [100, 32] ++ pt_chs fl (jc * 8) k ++ [45] ++ [48 + (b - 7)]).length) 32), cl_c xc ca cb cd cn, ar_n cI ca 33 fz, ar_n cI cb 33 fs, ar_i cI cd (33 * 8) fl]) (va_runV (As := [.int (nI 32)]) (rest := []) ⟨hx, hb, hml, hown, hts⟩ (ct_Tx_put l D cI cZ _ xo oa 448 ((L ++ [100, 32] ++ pt_chs fl (jc * 8) k ++ [45] ++ [48 + (b - 7)]).length) (pt_pn ot (L ++ [100, 32] ++ pt_chs fl (jc * 8) k ++ [45] ++ [48 + (b - 7)])) 32 (by decide) (by simp only [ln_s]; omega)) (cwV 1 hts (kx_gV wd_219 wd_220 wd_221 wd_2 wd_222) rfl rfl rfl ⟨rfl, yd_Tx_put⟩ ⟨Nat.le_of_ble_eq_true rfl, Nat.le_of_ble_eq_true rfl⟩) (kp_V (q0 := 1) (ci := 0) hP hD hK hN [1, 2] rfl rfl rfl rfl rfl) rfl rfl hl.1 rfl (lv_room (Nat.le_of_ble_eq_true rfl)) dc_Pt_writeStep_83 ⟨Nat.le_of_ble_eq_true rfl, Nat.le_of_ble_eq_true rfl⟩) hP hD hS hA [1, 2] [0, 3, 4, 5, 6] [0, 5, 6, 1, 2, 3, 4] rfl rfl rfl (by decide) rfl rfl (fun H locs hP hD hS => ?_)
              have hP : va_P D kc_l [pt_c o xt xo xd xc xs xr xa hf hp fb, tx_c xo oa ((L ++ [100, 32] ++ pt_chs fl (jc * 8) k ++ [45] ++ [48 + (b - 7)] ++ [32]).length), ar_n cI oa 448 (pt_pn ot (L ++ [100, 32] ++ pt_chs fl (jc * 8) k ++ [45] ++ [48 + (b - 7)] ++ [32])), cl_c xc ca cb cd cn, ar_n cI ca 33 fz, ar_n cI cb 33 fs, ar_i cI cd (33 * 8) fl] H := by rw [← pn_s, ln_s]; exact hP
              have hD : va_D A [pt_c o xt xo xd xc xs xr xa hf hp fb, tx_c xo oa ((L ++ [100, 32] ++ pt_chs fl (jc * 8) k ++ [45] ++ [48 + (b - 7)] ++ [32]).length), ar_n cI oa 448 (pt_pn ot (L ++ [100, 32] ++ pt_chs fl (jc * 8) k ++ [45] ++ [48 + (b - 7)] ++ [32])), cl_c xc ca cb cd cn, ar_n cI ca 33 fz, ar_n cI cb 33 fs, ar_i cI cd (33 * 8) fl] := by rw [← pn_s, ln_s]; exact hD
              refine lv_iinc (k := 1) (v := nI (k + 1)) (lv' := [(3, .int (nI (k + 1))), (4, .int (-nI (b - 7))), (0, .ref o), (1, .int (kb_i d)), (2, .int (nI jc))]) hx hb dc_Pt_writeStep_86 hl rfl (nI_1 _) (by decide) rfl (fun ls hl => ?_)
              refine lv_goto hx hb dc_Pt_writeStep_89 rfl ?_
              have hP : va_P D kc_l [pt_c o xt xo xd xc xs xr xa hf hp fb, tx_c xo oa ((L ++ [100, 32] ++ pt_chs fl (jc * 8) (k + 1)).length), ar_n cI oa 448 (pt_pn ot (L ++ [100, 32] ++ pt_chs fl (jc * 8) (k + 1))), cl_c xc ca cb cd cn, ar_n cI ca 33 fz, ar_n cI cb 33 fs, ar_i cI cd (33 * 8) fl] H := by rw [chs_n hbe hb16 (by omega)]; exact hP
              have hD : va_D A [pt_c o xt xo xd xc xs xr xa hf hp fb, tx_c xo oa ((L ++ [100, 32] ++ pt_chs fl (jc * 8) (k + 1)).length), ar_n cI oa 448 (pt_pn ot (L ++ [100, 32] ++ pt_chs fl (jc * 8) (k + 1))), cl_c xc ca cb cd cn, ar_n cI ca 33 fz, ar_n cI cb 33 fs, ar_i cI cd (33 * 8) fl] := by rw [chs_n hbe hb16 (by omega)]; exact hD
              have hl := lv_sub (l' := [(3, .int (nI (k + 1))), (0, .ref o), (1, .int (kb_i d)), (2, .int (nI jc))]) hl [0, 2, 3, 4] rfl
              exact ih_24 _ _ _ _ (by omega) hP hD hS hl (by omega)
    exact lp_24 _ 0 _ _ _ (Nat.lt_succ_self _) hP hD hS hl (by omega)

set_option maxHeartbeats 4000000 in
set_option maxRecDepth 100000 in
theorem ct_Pt_write (l : Launch) (D : va_G) (cI cZ : ClassId) (sz : Nat) (o : Nat) (xt : Nat) (xo : Nat) (xd : Nat) (xc : Nat) (xs : Nat) (xr : Nat) (xa : Nat) (hf : Bool) (hp : Bool) (fb : Nat) (oa : Nat) (on : Nat) (ot : Nat → Nat) (ca : Nat) (cb : Nat) (cd : Nat) (cn : Nat) (fz : Nat → Nat) (fs : Nat → Nat) (fl : Nat → Int32) (sa : Nat) (sb : Nat) (sn : Nat) (op : Bool) (dl : Nat → Bool) (nu : Nat → Nat) (ra : Nat) (rb : Nat) (rd : Nat) (g : Nat) (ma : Nat) (ck : Bool) (ft : Nat → Nat) (fc : Nat → Nat) (fr : Nat → Int32) (hcn : cn ≤ 32) (hck : ck = true) (hsn : sn ≤ 16) (hz : ∀ j, 1 ≤ j → j ≤ cn → fz j ≤ 8) (hnu : ∀ i, 1 ≤ i → i ≤ sn → nu i ≤ cn) (hadd : ∀ i, 1 ≤ i → i ≤ sn → dl i = false → fb < nu i) (hma : ma < 2 ^ 62) (hm0 : ma.testBit 0 = false) (hfb : fb ≤ 32) (hlits : ∀ j k, 1 ≤ j → j ≤ cn → k < fz j → ∃ b, b < 16 ∧ fl (j * 8 + k) = pt_lit b) : Met l yn_Pt_write (Cond.code yn_Pt_write bc_Pt_write 4 (some .int) :: kx_all) ({ frames := 3, cells := 0, slots := 0, locals := 67 } : Room) (kp [.ref o] D cI cZ [pt_c o xt xo xd xc xs xr xa hf hp fb, tx_c xo oa on, ar_n cI oa 448 ot, cl_c xc ca cb cd cn, ar_n cI ca 33 fz, ar_n cI cb 33 fs, ar_i cI cd (33 * 8) fl, sp_c xs sa sb sn op, ar_b cZ sa 17 dl, ar_n cI sb 17 nu, tr_c xr ra rb rd g ma ck, ar_n cI ra 33 ft, ar_n cI rb 33 fc, ar_i cI rd 2048 fr] sz) (kw_q (some (.int (nI ((pt_wr fz fl fb ma dl nu sn).length)))) D kc_l [pt_c o xt xo xd xc xs xr xa hf hp fb, tx_c xo oa ((pt_wr fz fl fb ma dl nu sn).length), ar_n cI oa 448 (pt_pn ot (pt_wr fz fl fb ma dl nu sn)), cl_c xc ca cb cd cn, ar_n cI ca 33 fz, ar_n cI cb 33 fs, ar_i cI cd (33 * 8) fl, sp_c xs sa sb sn op, ar_b cZ sa 17 dl, ar_n cI sb 17 nu, tr_c xr ra rb rd g ma ck, ar_n cI ra 33 ft, ar_n cI rb 33 fc, ar_i cI rd 2048 fr] (va_A [pt_c o xt xo xd xc xs xr xa hf hp fb, tx_c xo oa on, ar_n cI oa 448 ot, cl_c xc ca cb cd cn, ar_n cI ca 33 fz, ar_n cI cb 33 fs, ar_i cI cd (33 * 8) fl, sp_c xs sa sb sn op, ar_b cZ sa 17 dl, ar_n cI sb 17 nu, tr_c xr ra rb rd g ma ck, ar_n cI ra 33 ft, ar_n cI rb 33 fc, ar_i cI rd 2048 fr] sz)) 0 0 (va_A [pt_c o xt xo xd xc xs xr xa hf hp fb, tx_c xo oa on, ar_n cI oa 448 ot, cl_c xc ca cb cd cn, ar_n cI ca 33 fz, ar_n cI cb 33 fs, ar_i cI cd (33 * 8) fl, sp_c xs sa sb sn op, ar_b cZ sa 17 dl, ar_n cI sb 17 nu, tr_c xr ra rb rd g ma ck, ar_n cI ra 33 ft, ar_n cI rb 33 fc, ar_i cI rd 2048 fr] sz) := by
  refine kx_metW (by decide) (Nat.le_of_ble_eq_true rfl) ?_
  intro p e s m below meth c ls A hx hb hr hml hts hown hlocks hin hA hP hK hD hN hl hS
  have hown : s.vm.findClass rn_Pt = some m.cls := hown
  have hl : lv_has ls 4 [(0, .ref o)] := hl
  refine lv_aload_n hx hb dc_Pt_write_0 rfl (lv_at hl 0 rfl) ?_
  refine va_get (ci := 9) (v := .ref xr) (C := rn_Pt) (T := fd_Pt) (N := 10) hx hb hts in_Pt hown hK hP 0 rfl rfl 5 (by decide) (hts _ wd_189) (fun _ h9 => h9) rfl dc_Pt_write_1 ?_
  refine va_getN (ci := 5) (v := .int (kb_i ck)) (C := rn_Tr) (T := fd_Tr) (N := 6) hx hb hts in_Tr hown hK hP 10 rfl rfl 5 (by decide) (nf_144 hN) (fun _ h9 => h9) rfl dc_Pt_write_4 ?_
  refine kb_if_ne hx hb dc_Pt_write_7 rfl (fun hc7 => ?_) (fun hc7 => ?_)
  · refine lv_aload_n hx hb dc_Pt_write_20 rfl (lv_at hl 0 rfl) ?_
    refine va_get (ci := 9) (v := .ref xo) (C := rn_Pt) (T := fd_Pt) (N := 10) hx hb hts in_Pt hown hK hP 0 rfl rfl 1 (by decide) (hts _ wd_185) (fun _ h9 => h9) rfl dc_Pt_write_21 ?_
    refine kw_call0 (wr := [pt_c o xt xo xd xc xs xr xa hf hp fb, ar_n cI oa 448 ot, cl_c xc ca cb cd cn, ar_n cI ca 33 fz, ar_n cI cb 33 fs, ar_i cI cd (33 * 8) fl, sp_c xs sa sb sn op, ar_b cZ sa 17 dl, ar_n cI sb 17 nu, tr_c xr ra rb rd g ma ck, ar_n cI ra 33 ft, ar_n cI rb 33 fc, ar_i cI rd 2048 fr]) (ws' := [pt_c o xt xo xd xc xs xr xa hf hp fb, tx_c xo oa 0, ar_n cI oa 448 ot, cl_c xc ca cb cd cn, ar_n cI ca 33 fz, ar_n cI cb 33 fs, ar_i cI cd (33 * 8) fl, sp_c xs sa sb sn op, ar_b cZ sa 17 dl, ar_n cI sb 17 nu, tr_c xr ra rb rd g ma ck, ar_n cI ra 33 ft, ar_n cI rb 33 fc, ar_i cI rd 2048 fr]) (va_runV (As := []) (rest := []) ⟨hx, hb, hml, hown, hts⟩ (ct_Tx_clear l D cI cZ _ xo oa on) (cwV 0 hts (kx_gV wd_227 wd_228 wd_229 wd_2 wd_230) rfl rfl rfl ⟨rfl, yd_Tx_clear⟩ ⟨Nat.le_of_ble_eq_true rfl, Nat.le_of_ble_eq_true rfl⟩) (kp_V (q0 := 1) (ci := 0) hP hD hK hN [1] rfl rfl rfl rfl rfl) rfl rfl hl.1 rfl (lv_room (Nat.le_of_ble_eq_true rfl)) dc_Pt_write_24 ⟨Nat.le_of_ble_eq_true rfl, Nat.le_of_ble_eq_true rfl⟩) hP hD hS hA [1] [0, 2, 3, 4, 5, 6, 7, 8, 9, 10, 11, 12, 13] [0, 13, 1, 2, 3, 4, 5, 6, 7, 8, 9, 10, 11, 12] rfl rfl rfl (by decide) rfl rfl (fun H locs hP hD hS => ?_)
    refine lv_iconst (v := nI 1) hx hb dc_Pt_write_27 (by decide +kernel) ?_
    refine lv_istore_n (lv' := [(1, .int (nI 1)), (0, .ref o)]) hx hb dc_Pt_write_28 rfl hl (by decide) rfl (fun ls hl => ?_)
    have hP : va_P D kc_l [pt_c o xt xo xd xc xs xr xa hf hp fb, tx_c xo oa ((pt_wr fz fl fb ma dl nu 0).length), ar_n cI oa 448 (pt_pn ot (pt_wr fz fl fb ma dl nu 0)), cl_c xc ca cb cd cn, ar_n cI ca 33 fz, ar_n cI cb 33 fs, ar_i cI cd (33 * 8) fl, sp_c xs sa sb sn op, ar_b cZ sa 17 dl, ar_n cI sb 17 nu, tr_c xr ra rb rd g ma ck, ar_n cI ra 33 ft, ar_n cI rb 33 fc, ar_i cI rd 2048 fr] H := by rw [show pt_wr fz fl fb ma dl nu 0 = [] from rfl, pn_0]; exact hP
    have hD : va_D A [pt_c o xt xo xd xc xs xr xa hf hp fb, tx_c xo oa ((pt_wr fz fl fb ma dl nu 0).length), ar_n cI oa 448 (pt_pn ot (pt_wr fz fl fb ma dl nu 0)), cl_c xc ca cb cd cn, ar_n cI ca 33 fz, ar_n cI cb 33 fs, ar_i cI cd (33 * 8) fl, sp_c xs sa sb sn op, ar_b cZ sa 17 dl, ar_n cI sb 17 nu, tr_c xr ra rb rd g ma ck, ar_n cI ra 33 ft, ar_n cI rb 33 fc, ar_i cI rd 2048 fr] := by rw [show pt_wr fz fl fb ma dl nu 0 = [] from rfl, pn_0]; exact hD
    have lp_29 : ∀ (K : Nat) (q : Nat) (H : Heap) (locs : List Loc) (ls : Array Slot), sn - q < K → va_P D kc_l [pt_c o xt xo xd xc xs xr xa hf hp fb, tx_c xo oa ((pt_wr fz fl fb ma dl nu q).length), ar_n cI oa 448 (pt_pn ot (pt_wr fz fl fb ma dl nu q)), cl_c xc ca cb cd cn, ar_n cI ca 33 fz, ar_n cI cb 33 fs, ar_i cI cd (33 * 8) fl, sp_c xs sa sb sn op, ar_b cZ sa 17 dl, ar_n cI sb 17 nu, tr_c xr ra rb rd g ma ck, ar_n cI ra 33 ft, ar_n cI rb 33 fc, ar_i cI rd 2048 fr] H → va_D A [pt_c o xt xo xd xc xs xr xa hf hp fb, tx_c xo oa ((pt_wr fz fl fb ma dl nu q).length), ar_n cI oa 448 (pt_pn ot (pt_wr fz fl fb ma dl nu q)), cl_c xc ca cb cd cn, ar_n cI ca 33 fz, ar_n cI cb 33 fs, ar_i cI cd (33 * 8) fl, sp_c xs sa sb sn op, ar_b cZ sa 17 dl, ar_n cI sb 17 nu, tr_c xr ra rb rd g ma ck, ar_n cI ra 33 ft, ar_n cI rb 33 fc, ar_i cI rd 2048 fr] → va_S A s.heap H locs → lv_has ls 4 [(1, .int (nI (q + 1))), (0, .ref o)] → (q ≤ sn) → W p l e ({ frames := 3, cells := 0, slots := 0, locals := 67 } : Room) s m ([.ref o] : List Value).toArray below meth c H locs 0 0 (MQ below (kw_q (some (.int (nI ((pt_wr fz fl fb ma dl nu sn).length)))) D kc_l [pt_c o xt xo xd xc xs xr xa hf hp fb, tx_c xo oa ((pt_wr fz fl fb ma dl nu sn).length), ar_n cI oa 448 (pt_pn ot (pt_wr fz fl fb ma dl nu sn)), cl_c xc ca cb cd cn, ar_n cI ca 33 fz, ar_n cI cb 33 fs, ar_i cI cd (33 * 8) fl, sp_c xs sa sb sn op, ar_b cZ sa 17 dl, ar_n cI sb 17 nu, tr_c xr ra rb rd g ma ck, ar_n cI ra 33 ft, ar_n cI rb 33 fc, ar_i cI rd 2048 fr] A) ([.ref o] : List Value).toArray s 0 0 A) (F0 m 29 ls []) := by
      intro K
      induction K with
      | zero =>
        intro q H locs ls hk
        exact absurd hk (Nat.not_lt_zero _)
      | succ K ih_29 =>
        intro q H locs ls hk hP hD hS hl h2
        refine lv_iload_n hx hb dc_Pt_write_29 rfl (lv_at hl 0 rfl) ?_
        refine lv_aload_n hx hb dc_Pt_write_30 rfl (lv_at hl 1 rfl) ?_
        refine va_get (ci := 9) (v := .ref xs) (C := rn_Pt) (T := fd_Pt) (N := 10) hx hb hts in_Pt hown hK hP 0 rfl rfl 4 (by decide) (hts _ wd_188) (fun _ h9 => h9) rfl dc_Pt_write_31 ?_
        refine va_getN (ci := 4) (v := .int (nI sn)) (C := rn_Sp) (T := fd_Sp) (N := 4) hx hb hts in_Sp hown hK hP 7 rfl rfl 2 (by decide) (nf_117 hN) (fun _ h9 => h9) rfl dc_Pt_write_34 ?_
        refine kn_icmp_gt hx hb (by omega) (by omega) dc_Pt_write_37 rfl (fun hc37 => ?_) (fun hc37 => ?_)
        · refine lv_aload_n hx hb dc_Pt_write_107 rfl (lv_at hl 1 rfl) ?_
          refine va_get (ci := 9) (v := .ref xo) (C := rn_Pt) (T := fd_Pt) (N := 10) hx hb hts in_Pt hown hK hP 0 rfl rfl 1 (by decide) (hts _ wd_185) (fun _ h9 => h9) rfl dc_Pt_write_108 ?_
          refine va_getN (ci := 0) (v := .int (nI ((pt_wr fz fl fb ma dl nu q).length))) (C := rn_Tx) (T := fd_Tx) (N := 2) hx hb hts in_Tx hown hK hP 1 rfl rfl 1 (by decide) (nf_39 hN) (fun _ h9 => h9) rfl dc_Pt_write_111 ?_
          exact kw_iret hx hb hr hlocks hP hD hS dc_Pt_write_114 (by rw [show q = sn by omega]) (by rw [show q = sn by omega])
        · have hnq := hnu (q + 1) (by omega) (by omega)
          have hlen := wr_len (fl := fl) (ba := fb) (mk := ma) (dl := dl) hz hnu q (by omega)
          refine lv_aload_n hx hb dc_Pt_write_40 rfl (lv_at hl 1 rfl) ?_
          refine va_get (ci := 9) (v := .ref xs) (C := rn_Pt) (T := fd_Pt) (N := 10) hx hb hts in_Pt hown hK hP 0 rfl rfl 4 (by decide) (hts _ wd_188) (fun _ h9 => h9) rfl dc_Pt_write_41 ?_
          refine va_getN (ci := 4) (v := .ref sb) (C := rn_Sp) (T := fd_Sp) (N := 4) hx hb hts in_Sp hown hK hP 7 rfl rfl 1 (by decide) (nf_113 hN) (fun _ h9 => h9) rfl dc_Pt_write_44 ?_
          refine lv_iload_n hx hb dc_Pt_write_47 rfl (lv_at hl 0 rfl) ?_
          refine ka_nald (t := nu) hx hb hK hP 9 0 rfl rfl (j := q + 1) (by omega) (by omega) dc_Pt_write_48 ?_
          refine lv_istore_n (lv' := [(2, .int (nI (nu (q + 1)))), (1, .int (nI (q + 1))), (0, .ref o)]) hx hb dc_Pt_write_49 rfl hl (by decide) rfl (fun ls hl => ?_)
          refine lv_iload_n hx hb dc_Pt_write_50 rfl (lv_at hl 0 rfl) ?_
          refine lv_iconst (v := nI 1) hx hb dc_Pt_write_51 (by decide +kernel) ?_
          refine kn_icmp_lt hx hb (by omega) (by omega) dc_Pt_write_52 rfl (fun hc52 => ?_) (fun hc52 => ?_)
          · refine lv_iconst (v := nI 0) hx hb dc_Pt_write_67 (by decide +kernel) ?_
            refine lv_istore_n (lv' := [(3, .int (nI 0)), (2, .int (nI (nu (q + 1)))), (1, .int (nI (q + 1))), (0, .ref o)]) hx hb dc_Pt_write_68 rfl hl (by decide) rfl (fun ls hl => ?_)
            refine lv_iload_n hx hb dc_Pt_write_69 rfl (lv_at hl 0 rfl) ?_
            refine kn_if_ne hx hb (by omega) dc_Pt_write_70 rfl (fun hc70 => ?_) (fun hc70 => ?_)
            · exfalso; omega
            · refine lv_aload_n hx hb dc_Pt_write_73 rfl (lv_at hl 3 rfl) ?_
              refine va_get (ci := 9) (v := .ref xr) (C := rn_Pt) (T := fd_Pt) (N := 10) hx hb hts in_Pt hown hK hP 0 rfl rfl 5 (by decide) (hts _ wd_189) (fun _ h9 => h9) rfl dc_Pt_write_74 ?_
              refine va_getN (ci := 5) (v := .long (lN ma)) (C := rn_Tr) (T := fd_Tr) (N := 6) hx hb hts in_Tr hown hK hP 10 rfl rfl 4 (by decide) (nf_142 hN) (fun _ h9 => h9) rfl dc_Pt_write_77 ?_
              refine lv_iload_n hx hb dc_Pt_write_80 rfl (lv_at hl 1 rfl) ?_
              refine kr_call1 (va_runS (As := [.long (lN ma), .int (nI (nu (q + 1)))]) (rest := []) ⟨hx, hb, hml, hown, hts⟩ (ct_Pt_contains l D cI cZ _ ma (nu (q + 1)) (hma) (by omega)) (cwS 2 hts (kx_gS wd_260 wd_261 wd_1 wd_262) rfl rfl rfl ⟨rfl, yd_Pt_contains⟩ ⟨Nat.le_of_ble_eq_true rfl, Nat.le_of_ble_eq_true rfl⟩) (kp_S hP hD hK hN [] rfl rfl) rfl rfl hl.1 rfl (lv_room (Nat.le_of_ble_eq_true rfl)) dc_Pt_write_81 ⟨Nat.le_of_ble_eq_true rfl, Nat.le_of_ble_eq_true rfl⟩) ?_
              refine kb_if_eq hx hb dc_Pt_write_84 rfl (fun hc84 => ?_) (fun hc84 => ?_)
              · have hsl : pt_sel fb ma dl nu (q + 1) = false := by unfold pt_sel; rw [show nu (q + 1) = 0 by omega]; rfl
                refine lv_iinc (k := 2) (v := nI ((q + 1) + 1)) (lv' := [(1, .int (nI ((q + 1) + 1))), (3, .int (nI 0)), (2, .int (nI (nu (q + 1)))), (0, .ref o)]) hx hb dc_Pt_write_101 hl rfl (nI_1 _) (by decide) rfl (fun ls hl => ?_)
                refine lv_goto hx hb dc_Pt_write_104 rfl ?_
                have hP : va_P D kc_l [pt_c o xt xo xd xc xs xr xa hf hp fb, tx_c xo oa ((pt_wr fz fl fb ma dl nu (q + 1)).length), ar_n cI oa 448 (pt_pn ot (pt_wr fz fl fb ma dl nu (q + 1))), cl_c xc ca cb cd cn, ar_n cI ca 33 fz, ar_n cI cb 33 fs, ar_i cI cd (33 * 8) fl, sp_c xs sa sb sn op, ar_b cZ sa 17 dl, ar_n cI sb 17 nu, tr_c xr ra rb rd g ma ck, ar_n cI ra 33 ft, ar_n cI rb 33 fc, ar_i cI rd 2048 fr] H := by rw [wr_n hsl]; exact hP
                have hD : va_D A [pt_c o xt xo xd xc xs xr xa hf hp fb, tx_c xo oa ((pt_wr fz fl fb ma dl nu (q + 1)).length), ar_n cI oa 448 (pt_pn ot (pt_wr fz fl fb ma dl nu (q + 1))), cl_c xc ca cb cd cn, ar_n cI ca 33 fz, ar_n cI cb 33 fs, ar_i cI cd (33 * 8) fl, sp_c xs sa sb sn op, ar_b cZ sa 17 dl, ar_n cI sb 17 nu, tr_c xr ra rb rd g ma ck, ar_n cI ra 33 ft, ar_n cI rb 33 fc, ar_i cI rd 2048 fr] := by rw [wr_n hsl]; exact hD
                have hl := lv_sub (l' := [(1, .int (nI ((q + 1) + 1))), (0, .ref o)]) hl [0, 3] rfl
                exact ih_29 _ _ _ _ (by omega) hP hD hS hl (by omega)
              · exact absurd hc84 (by rw [show nu (q + 1) = 0 by omega, hm0]; decide)
          · refine lv_iload_n hx hb dc_Pt_write_55 rfl (lv_at hl 0 rfl) ?_
            refine lv_aload_n hx hb dc_Pt_write_56 rfl (lv_at hl 2 rfl) ?_
            refine va_get (ci := 9) (v := .int (nI fb)) (C := rn_Pt) (T := fd_Pt) (N := 10) hx hb hts in_Pt hown hK hP 0 rfl rfl 9 (by decide) (hts _ wd_193) (fun _ h9 => h9) rfl dc_Pt_write_57 ?_
            refine kn_icmp_gt hx hb (by omega) (by omega) dc_Pt_write_60 rfl (fun hc60 => ?_) (fun hc60 => ?_)
            · refine lv_iconst (v := nI 0) hx hb dc_Pt_write_67 (by decide +kernel) ?_
              refine lv_istore_n (lv' := [(3, .int (nI 0)), (2, .int (nI (nu (q + 1)))), (1, .int (nI (q + 1))), (0, .ref o)]) hx hb dc_Pt_write_68 rfl hl (by decide) rfl (fun ls hl => ?_)
              refine lv_iload_n hx hb dc_Pt_write_69 rfl (lv_at hl 0 rfl) ?_
              refine kn_if_ne hx hb (by omega) dc_Pt_write_70 rfl (fun hc70 => ?_) (fun hc70 => ?_)
              · exfalso; omega
              · refine lv_aload_n hx hb dc_Pt_write_73 rfl (lv_at hl 3 rfl) ?_
                refine va_get (ci := 9) (v := .ref xr) (C := rn_Pt) (T := fd_Pt) (N := 10) hx hb hts in_Pt hown hK hP 0 rfl rfl 5 (by decide) (hts _ wd_189) (fun _ h9 => h9) rfl dc_Pt_write_74 ?_
                refine va_getN (ci := 5) (v := .long (lN ma)) (C := rn_Tr) (T := fd_Tr) (N := 6) hx hb hts in_Tr hown hK hP 10 rfl rfl 4 (by decide) (nf_142 hN) (fun _ h9 => h9) rfl dc_Pt_write_77 ?_
                refine lv_iload_n hx hb dc_Pt_write_80 rfl (lv_at hl 1 rfl) ?_
                refine kr_call1 (va_runS (As := [.long (lN ma), .int (nI (nu (q + 1)))]) (rest := []) ⟨hx, hb, hml, hown, hts⟩ (ct_Pt_contains l D cI cZ _ ma (nu (q + 1)) (hma) (by omega)) (cwS 2 hts (kx_gS wd_260 wd_261 wd_1 wd_262) rfl rfl rfl ⟨rfl, yd_Pt_contains⟩ ⟨Nat.le_of_ble_eq_true rfl, Nat.le_of_ble_eq_true rfl⟩) (kp_S hP hD hK hN [] rfl rfl) rfl rfl hl.1 rfl (lv_room (Nat.le_of_ble_eq_true rfl)) dc_Pt_write_81 ⟨Nat.le_of_ble_eq_true rfl, Nat.le_of_ble_eq_true rfl⟩) ?_
                refine kb_if_eq hx hb dc_Pt_write_84 rfl (fun hc84 => ?_) (fun hc84 => ?_)
                · have hsl : pt_sel fb ma dl nu (q + 1) = false := by unfold pt_sel; rw [hc84, decide_eq_false (show ¬ nu (q + 1) ≤ fb by omega)]; simp
                  refine lv_iinc (k := 2) (v := nI ((q + 1) + 1)) (lv' := [(1, .int (nI ((q + 1) + 1))), (3, .int (nI 0)), (2, .int (nI (nu (q + 1)))), (0, .ref o)]) hx hb dc_Pt_write_101 hl rfl (nI_1 _) (by decide) rfl (fun ls hl => ?_)
                  refine lv_goto hx hb dc_Pt_write_104 rfl ?_
                  have hP : va_P D kc_l [pt_c o xt xo xd xc xs xr xa hf hp fb, tx_c xo oa ((pt_wr fz fl fb ma dl nu (q + 1)).length), ar_n cI oa 448 (pt_pn ot (pt_wr fz fl fb ma dl nu (q + 1))), cl_c xc ca cb cd cn, ar_n cI ca 33 fz, ar_n cI cb 33 fs, ar_i cI cd (33 * 8) fl, sp_c xs sa sb sn op, ar_b cZ sa 17 dl, ar_n cI sb 17 nu, tr_c xr ra rb rd g ma ck, ar_n cI ra 33 ft, ar_n cI rb 33 fc, ar_i cI rd 2048 fr] H := by rw [wr_n hsl]; exact hP
                  have hD : va_D A [pt_c o xt xo xd xc xs xr xa hf hp fb, tx_c xo oa ((pt_wr fz fl fb ma dl nu (q + 1)).length), ar_n cI oa 448 (pt_pn ot (pt_wr fz fl fb ma dl nu (q + 1))), cl_c xc ca cb cd cn, ar_n cI ca 33 fz, ar_n cI cb 33 fs, ar_i cI cd (33 * 8) fl, sp_c xs sa sb sn op, ar_b cZ sa 17 dl, ar_n cI sb 17 nu, tr_c xr ra rb rd g ma ck, ar_n cI ra 33 ft, ar_n cI rb 33 fc, ar_i cI rd 2048 fr] := by rw [wr_n hsl]; exact hD
                  have hl := lv_sub (l' := [(1, .int (nI ((q + 1) + 1))), (0, .ref o)]) hl [0, 3] rfl
                  exact ih_29 _ _ _ _ (by omega) hP hD hS hl (by omega)
                · have hsl : pt_sel fb ma dl nu (q + 1) = true := by unfold pt_sel; rw [hc84, decide_eq_true (show 1 ≤ nu (q + 1) by omega)]; rfl
                  refine lv_aload_n hx hb dc_Pt_write_87 rfl (lv_at hl 3 rfl) ?_
                  refine lv_aload_n hx hb dc_Pt_write_88 rfl (lv_at hl 3 rfl) ?_
                  refine va_get (ci := 9) (v := .ref xs) (C := rn_Pt) (T := fd_Pt) (N := 10) hx hb hts in_Pt hown hK hP 0 rfl rfl 4 (by decide) (hts _ wd_188) (fun _ h9 => h9) rfl dc_Pt_write_89 ?_
                  refine va_getN (ci := 4) (v := .ref sa) (C := rn_Sp) (T := fd_Sp) (N := 4) hx hb hts in_Sp hown hK hP 7 rfl rfl 0 (by decide) (nf_109 hN) (fun _ h9 => h9) rfl dc_Pt_write_92 ?_
                  refine lv_iload_n hx hb dc_Pt_write_95 rfl (lv_at hl 2 rfl) ?_
                  refine ka_bald (t := dl) hx hb hK hP 8 1 rfl rfl (j := q + 1) (by omega) (by omega) dc_Pt_write_96 ?_
                  refine lv_iload_n hx hb dc_Pt_write_97 rfl (lv_at hl 1 rfl) ?_
                  refine kw_call0 (wr := [sp_c xs sa sb sn op, ar_b cZ sa 17 dl, ar_n cI sb 17 nu, tr_c xr ra rb rd g ma ck, ar_n cI ra 33 ft, ar_n cI rb 33 fc, ar_i cI rd 2048 fr]) (ws' := [pt_c o xt xo xd xc xs xr xa hf hp fb, tx_c xo oa (((pt_wr fz fl fb ma dl nu q) ++ pt_line fl (dl (q + 1)) (nu (q + 1)) (fz (nu (q + 1)))).length), ar_n cI oa 448 (pt_pn ot ((pt_wr fz fl fb ma dl nu q) ++ pt_line fl (dl (q + 1)) (nu (q + 1)) (fz (nu (q + 1))))), cl_c xc ca cb cd cn, ar_n cI ca 33 fz, ar_n cI cb 33 fs, ar_i cI cd (33 * 8) fl, sp_c xs sa sb sn op, ar_b cZ sa 17 dl, ar_n cI sb 17 nu, tr_c xr ra rb rd g ma ck, ar_n cI ra 33 ft, ar_n cI rb 33 fc, ar_i cI rd 2048 fr]) (va_runV (As := [.int (kb_i (dl (q + 1))), .int (nI (nu (q + 1)))]) (rest := []) ⟨hx, hb, hml, hown, hts⟩ (ct_Pt_writeStep l D cI cZ _ o xt xo xd xc xs xr xa hf hp fb oa ot ca cb cd cn fz fs fl (dl (q + 1)) (nu (q + 1)) (pt_wr fz fl fb ma dl nu q) (by omega) (hz) (by omega) (by omega) (by omega) (hlits)) (cwV 2 hts (kx_gV wd_735 wd_737 (kx_sel (q := (yn_Pt_writeStep, 10)) (List.mem_append_left _ (List.mem_of_getElem? (i := 11) rfl))) wd_1 wd_738) rfl rfl rfl ⟨rfl, yd_Pt_writeStep⟩ ⟨Nat.le_of_ble_eq_true rfl, Nat.le_of_ble_eq_true rfl⟩) (kp_V (q0 := 0) (ci := 9) hP hD hK hN [0, 1, 2, 3, 4, 5, 6] rfl rfl rfl rfl rfl) rfl rfl hl.1 rfl (lv_room (Nat.le_of_ble_eq_true rfl)) dc_Pt_write_98 ⟨Nat.le_of_ble_eq_true rfl, Nat.le_of_ble_eq_true rfl⟩) hP hD hS hA [0, 1, 2, 3, 4, 5, 6] [7, 8, 9, 10, 11, 12, 13] [7, 8, 9, 10, 11, 12, 13, 0, 1, 2, 3, 4, 5, 6] rfl rfl rfl (by decide) rfl rfl (fun H locs hP hD hS => ?_)
                  refine lv_iinc (k := 2) (v := nI ((q + 1) + 1)) (lv' := [(1, .int (nI ((q + 1) + 1))), (3, .int (nI 0)), (2, .int (nI (nu (q + 1)))), (0, .ref o)]) hx hb dc_Pt_write_101 hl rfl (nI_1 _) (by decide) rfl (fun ls hl => ?_)
                  refine lv_goto hx hb dc_Pt_write_104 rfl ?_
                  have hP : va_P D kc_l [pt_c o xt xo xd xc xs xr xa hf hp fb, tx_c xo oa ((pt_wr fz fl fb ma dl nu (q + 1)).length), ar_n cI oa 448 (pt_pn ot (pt_wr fz fl fb ma dl nu (q + 1))), cl_c xc ca cb cd cn, ar_n cI ca 33 fz, ar_n cI cb 33 fs, ar_i cI cd (33 * 8) fl, sp_c xs sa sb sn op, ar_b cZ sa 17 dl, ar_n cI sb 17 nu, tr_c xr ra rb rd g ma ck, ar_n cI ra 33 ft, ar_n cI rb 33 fc, ar_i cI rd 2048 fr] H := by rw [wr_l hsl]; exact hP
                  have hD : va_D A [pt_c o xt xo xd xc xs xr xa hf hp fb, tx_c xo oa ((pt_wr fz fl fb ma dl nu (q + 1)).length), ar_n cI oa 448 (pt_pn ot (pt_wr fz fl fb ma dl nu (q + 1))), cl_c xc ca cb cd cn, ar_n cI ca 33 fz, ar_n cI cb 33 fs, ar_i cI cd (33 * 8) fl, sp_c xs sa sb sn op, ar_b cZ sa 17 dl, ar_n cI sb 17 nu, tr_c xr ra rb rd g ma ck, ar_n cI ra 33 ft, ar_n cI rb 33 fc, ar_i cI rd 2048 fr] := by rw [wr_l hsl]; exact hD
                  have hl := lv_sub (l' := [(1, .int (nI ((q + 1) + 1))), (0, .ref o)]) hl [0, 3] rfl
                  exact ih_29 _ _ _ _ (by omega) hP hD hS hl (by omega)
            · refine lv_iconst (v := nI 1) hx hb dc_Pt_write_63 (by decide +kernel) ?_
              refine lv_goto hx hb dc_Pt_write_64 rfl ?_
              refine lv_istore_n (lv' := [(3, .int (nI 1)), (2, .int (nI (nu (q + 1)))), (1, .int (nI (q + 1))), (0, .ref o)]) hx hb dc_Pt_write_68 rfl hl (by decide) rfl (fun ls hl => ?_)
              refine lv_iload_n hx hb dc_Pt_write_69 rfl (lv_at hl 0 rfl) ?_
              refine kn_if_ne hx hb (by omega) dc_Pt_write_70 rfl (fun hc70 => ?_) (fun hc70 => ?_)
              · have hdd : dl (q + 1) = true := by
                  cases h9 : dl (q + 1) with
                  | true => rfl
                  | false => have := hadd (q + 1) (by omega) (by omega) h9; omega
                have hsl : pt_sel fb ma dl nu (q + 1) = true := by unfold pt_sel; rw [decide_eq_true (show 1 ≤ nu (q + 1) by omega), decide_eq_true (show nu (q + 1) ≤ fb by omega), hdd]; simp
                refine lv_aload_n hx hb dc_Pt_write_87 rfl (lv_at hl 3 rfl) ?_
                refine lv_aload_n hx hb dc_Pt_write_88 rfl (lv_at hl 3 rfl) ?_
                refine va_get (ci := 9) (v := .ref xs) (C := rn_Pt) (T := fd_Pt) (N := 10) hx hb hts in_Pt hown hK hP 0 rfl rfl 4 (by decide) (hts _ wd_188) (fun _ h9 => h9) rfl dc_Pt_write_89 ?_
                refine va_getN (ci := 4) (v := .ref sa) (C := rn_Sp) (T := fd_Sp) (N := 4) hx hb hts in_Sp hown hK hP 7 rfl rfl 0 (by decide) (nf_109 hN) (fun _ h9 => h9) rfl dc_Pt_write_92 ?_
                refine lv_iload_n hx hb dc_Pt_write_95 rfl (lv_at hl 2 rfl) ?_
                refine ka_bald (t := dl) hx hb hK hP 8 1 rfl rfl (j := q + 1) (by omega) (by omega) dc_Pt_write_96 ?_
                refine lv_iload_n hx hb dc_Pt_write_97 rfl (lv_at hl 1 rfl) ?_
                refine kw_call0 (wr := [sp_c xs sa sb sn op, ar_b cZ sa 17 dl, ar_n cI sb 17 nu, tr_c xr ra rb rd g ma ck, ar_n cI ra 33 ft, ar_n cI rb 33 fc, ar_i cI rd 2048 fr]) (ws' := [pt_c o xt xo xd xc xs xr xa hf hp fb, tx_c xo oa (((pt_wr fz fl fb ma dl nu q) ++ pt_line fl (dl (q + 1)) (nu (q + 1)) (fz (nu (q + 1)))).length), ar_n cI oa 448 (pt_pn ot ((pt_wr fz fl fb ma dl nu q) ++ pt_line fl (dl (q + 1)) (nu (q + 1)) (fz (nu (q + 1))))), cl_c xc ca cb cd cn, ar_n cI ca 33 fz, ar_n cI cb 33 fs, ar_i cI cd (33 * 8) fl, sp_c xs sa sb sn op, ar_b cZ sa 17 dl, ar_n cI sb 17 nu, tr_c xr ra rb rd g ma ck, ar_n cI ra 33 ft, ar_n cI rb 33 fc, ar_i cI rd 2048 fr]) (va_runV (As := [.int (kb_i (dl (q + 1))), .int (nI (nu (q + 1)))]) (rest := []) ⟨hx, hb, hml, hown, hts⟩ (ct_Pt_writeStep l D cI cZ _ o xt xo xd xc xs xr xa hf hp fb oa ot ca cb cd cn fz fs fl (dl (q + 1)) (nu (q + 1)) (pt_wr fz fl fb ma dl nu q) (by omega) (hz) (by omega) (by omega) (by omega) (hlits)) (cwV 2 hts (kx_gV wd_735 wd_737 (kx_sel (q := (yn_Pt_writeStep, 10)) (List.mem_append_left _ (List.mem_of_getElem? (i := 11) rfl))) wd_1 wd_738) rfl rfl rfl ⟨rfl, yd_Pt_writeStep⟩ ⟨Nat.le_of_ble_eq_true rfl, Nat.le_of_ble_eq_true rfl⟩) (kp_V (q0 := 0) (ci := 9) hP hD hK hN [0, 1, 2, 3, 4, 5, 6] rfl rfl rfl rfl rfl) rfl rfl hl.1 rfl (lv_room (Nat.le_of_ble_eq_true rfl)) dc_Pt_write_98 ⟨Nat.le_of_ble_eq_true rfl, Nat.le_of_ble_eq_true rfl⟩) hP hD hS hA [0, 1, 2, 3, 4, 5, 6] [7, 8, 9, 10, 11, 12, 13] [7, 8, 9, 10, 11, 12, 13, 0, 1, 2, 3, 4, 5, 6] rfl rfl rfl (by decide) rfl rfl (fun H locs hP hD hS => ?_)
                refine lv_iinc (k := 2) (v := nI ((q + 1) + 1)) (lv' := [(1, .int (nI ((q + 1) + 1))), (3, .int (nI 1)), (2, .int (nI (nu (q + 1)))), (0, .ref o)]) hx hb dc_Pt_write_101 hl rfl (nI_1 _) (by decide) rfl (fun ls hl => ?_)
                refine lv_goto hx hb dc_Pt_write_104 rfl ?_
                have hP : va_P D kc_l [pt_c o xt xo xd xc xs xr xa hf hp fb, tx_c xo oa ((pt_wr fz fl fb ma dl nu (q + 1)).length), ar_n cI oa 448 (pt_pn ot (pt_wr fz fl fb ma dl nu (q + 1))), cl_c xc ca cb cd cn, ar_n cI ca 33 fz, ar_n cI cb 33 fs, ar_i cI cd (33 * 8) fl, sp_c xs sa sb sn op, ar_b cZ sa 17 dl, ar_n cI sb 17 nu, tr_c xr ra rb rd g ma ck, ar_n cI ra 33 ft, ar_n cI rb 33 fc, ar_i cI rd 2048 fr] H := by rw [wr_l hsl]; exact hP
                have hD : va_D A [pt_c o xt xo xd xc xs xr xa hf hp fb, tx_c xo oa ((pt_wr fz fl fb ma dl nu (q + 1)).length), ar_n cI oa 448 (pt_pn ot (pt_wr fz fl fb ma dl nu (q + 1))), cl_c xc ca cb cd cn, ar_n cI ca 33 fz, ar_n cI cb 33 fs, ar_i cI cd (33 * 8) fl, sp_c xs sa sb sn op, ar_b cZ sa 17 dl, ar_n cI sb 17 nu, tr_c xr ra rb rd g ma ck, ar_n cI ra 33 ft, ar_n cI rb 33 fc, ar_i cI rd 2048 fr] := by rw [wr_l hsl]; exact hD
                have hl := lv_sub (l' := [(1, .int (nI ((q + 1) + 1))), (0, .ref o)]) hl [0, 3] rfl
                exact ih_29 _ _ _ _ (by omega) hP hD hS hl (by omega)
              · exfalso; omega
    exact lp_29 _ 0 _ _ _ (Nat.lt_succ_self _) hP hD hS hl (by omega)
  · exact absurd hc7 (by rw [hck]; decide)
