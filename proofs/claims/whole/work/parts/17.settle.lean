/-! the steps are taken over -/
abbrev pt_T : Type := Nat × (Nat → Nat) × (Nat → Nat) × (Nat → Int32) × Nat × Bool × (Nat → Bool) × (Nat → Nat)
/-- from step i on, k of them: the clauses (how many, sizes, sets, literals), the steps (how many, open, what they do, their numbers) -/
def pt_set (gz gs : Nat → Nat) (gl : Nat → Int32) (dd : Nat → Bool) : Nat → Nat → Nat → Nat → (Nat → Nat) → (Nat → Nat) → (Nat → Int32) → Nat → Bool → (Nat → Bool) → (Nat → Nat) → pt_T
  | 0, _, _, n, fz, fs, fl, k, op, dl, nu => (n, fz, fs, fl, k, op, dl, nu)
  | r + 1, i, lv, n, fz, fs, fl, k, op, dl, nu =>
    if op = false then (n, fz, fs, fl, k, op, dl, nu)
    else if dd i = true then
      pt_set gz gs gl dd r (i + 1) (nb_d lv (2 ^ pt_last (fun j => lv.testBit j && decide (fs j = gs i)) n)) n fz fs fl i op (va_up dl i (dd i)) (va_up nu i (pt_last (fun j => lv.testBit j && decide (fs j = gs i)) n))
    else pt_set gz gs gl dd r (i + 1) (lv ||| 2 ^ (n + 1)) (n + 1) (va_up fz (n + 1) (gz i)) (va_up fs (n + 1) (gs i)) (va_cpy gl fl (i * 8) ((n + 1) * 8) (gz i)) i (!decide (gz i = 0)) (va_up dl i (dd i)) (va_up nu i (n + 1))

theorem dc_Sp_settle_0 : decode bc_Sp_settle 0 = .ok (.aload_n 0, 1) := by decide +kernel
theorem dc_Sp_settle_1 : decode bc_Sp_settle 1 = .ok (.invokevirtual 27, 3) := by decide +kernel
theorem dc_Sp_settle_4 : decode bc_Sp_settle 4 = .ok (.aload_n 2, 1) := by decide +kernel
theorem dc_Sp_settle_5 : decode bc_Sp_settle 5 = .ok (.getfield 30, 3) := by decide +kernel
theorem dc_Sp_settle_8 : decode bc_Sp_settle 8 = .ok (.invokestatic 33, 3) := by decide +kernel
theorem dc_Sp_settle_11 : decode bc_Sp_settle 11 = .ok (.lstore_n 3, 1) := by decide +kernel
theorem dc_Sp_settle_12 : decode bc_Sp_settle 12 = .ok (.iconst 1, 1) := by decide +kernel
theorem dc_Sp_settle_13 : decode bc_Sp_settle 13 = .ok (.istore 5, 2) := by decide +kernel
theorem dc_Sp_settle_15 : decode bc_Sp_settle 15 = .ok (.iload 5, 2) := by decide +kernel
theorem dc_Sp_settle_17 : decode bc_Sp_settle 17 = .ok (.aload_n 1, 1) := by decide +kernel
theorem dc_Sp_settle_18 : decode bc_Sp_settle 18 = .ok (.getfield 37, 3) := by decide +kernel
theorem dc_Sp_settle_21 : decode bc_Sp_settle 21 = .ok (.getfield 30, 3) := by decide +kernel
theorem dc_Sp_settle_24 : decode bc_Sp_settle 24 = .ok (.if_icmp .gt (151), 3) := by decide +kernel
theorem dc_Sp_settle_27 : decode bc_Sp_settle 27 = .ok (.iload 5, 2) := by decide +kernel
theorem dc_Sp_settle_29 : decode bc_Sp_settle 29 = .ok (.bipush (16), 2) := by decide +kernel
theorem dc_Sp_settle_31 : decode bc_Sp_settle 31 = .ok (.if_icmp .gt (144), 3) := by decide +kernel
theorem dc_Sp_settle_34 : decode bc_Sp_settle 34 = .ok (.aload_n 0, 1) := by decide +kernel
theorem dc_Sp_settle_35 : decode bc_Sp_settle 35 = .ok (.getfield 23, 3) := by decide +kernel
theorem dc_Sp_settle_38 : decode bc_Sp_settle 38 = .ok (.ifCond .eq (137), 3) := by decide +kernel
theorem dc_Sp_settle_41 : decode bc_Sp_settle 41 = .ok (.aload_n 0, 1) := by decide +kernel
theorem dc_Sp_settle_42 : decode bc_Sp_settle 42 = .ok (.getfield 9, 3) := by decide +kernel
theorem dc_Sp_settle_45 : decode bc_Sp_settle 45 = .ok (.iload 5, 2) := by decide +kernel
theorem dc_Sp_settle_47 : decode bc_Sp_settle 47 = .ok (.aload_n 1, 1) := by decide +kernel
theorem dc_Sp_settle_48 : decode bc_Sp_settle 48 = .ok (.getfield 43, 3) := by decide +kernel
theorem dc_Sp_settle_51 : decode bc_Sp_settle 51 = .ok (.iload 5, 2) := by decide +kernel
theorem dc_Sp_settle_53 : decode bc_Sp_settle 53 = .ok (.baload, 1) := by decide +kernel
theorem dc_Sp_settle_54 : decode bc_Sp_settle 54 = .ok (.bastore, 1) := by decide +kernel
theorem dc_Sp_settle_55 : decode bc_Sp_settle 55 = .ok (.aload_n 0, 1) := by decide +kernel
theorem dc_Sp_settle_56 : decode bc_Sp_settle 56 = .ok (.getfield 9, 3) := by decide +kernel
theorem dc_Sp_settle_59 : decode bc_Sp_settle 59 = .ok (.iload 5, 2) := by decide +kernel
theorem dc_Sp_settle_61 : decode bc_Sp_settle 61 = .ok (.baload, 1) := by decide +kernel
theorem dc_Sp_settle_62 : decode bc_Sp_settle 62 = .ok (.ifCond .eq (45), 3) := by decide +kernel
theorem dc_Sp_settle_65 : decode bc_Sp_settle 65 = .ok (.aload_n 0, 1) := by decide +kernel
theorem dc_Sp_settle_66 : decode bc_Sp_settle 66 = .ok (.getfield 15, 3) := by decide +kernel
theorem dc_Sp_settle_69 : decode bc_Sp_settle 69 = .ok (.iload 5, 2) := by decide +kernel
theorem dc_Sp_settle_71 : decode bc_Sp_settle 71 = .ok (.aload_n 2, 1) := by decide +kernel
theorem dc_Sp_settle_72 : decode bc_Sp_settle 72 = .ok (.lload_n 3, 1) := by decide +kernel
theorem dc_Sp_settle_73 : decode bc_Sp_settle 73 = .ok (.aload_n 1, 1) := by decide +kernel
theorem dc_Sp_settle_74 : decode bc_Sp_settle 74 = .ok (.getfield 37, 3) := by decide +kernel
theorem dc_Sp_settle_77 : decode bc_Sp_settle 77 = .ok (.getfield 44, 3) := by decide +kernel
theorem dc_Sp_settle_80 : decode bc_Sp_settle 80 = .ok (.iload 5, 2) := by decide +kernel
theorem dc_Sp_settle_82 : decode bc_Sp_settle 82 = .ok (.iaload, 1) := by decide +kernel
theorem dc_Sp_settle_83 : decode bc_Sp_settle 83 = .ok (.invokevirtual 47, 3) := by decide +kernel
theorem dc_Sp_settle_86 : decode bc_Sp_settle 86 = .ok (.iastore, 1) := by decide +kernel
theorem dc_Sp_settle_87 : decode bc_Sp_settle 87 = .ok (.lload_n 3, 1) := by decide +kernel
theorem dc_Sp_settle_88 : decode bc_Sp_settle 88 = .ok (.aload_n 0, 1) := by decide +kernel
theorem dc_Sp_settle_89 : decode bc_Sp_settle 89 = .ok (.getfield 15, 3) := by decide +kernel
theorem dc_Sp_settle_92 : decode bc_Sp_settle 92 = .ok (.iload 5, 2) := by decide +kernel
theorem dc_Sp_settle_94 : decode bc_Sp_settle 94 = .ok (.iaload, 1) := by decide +kernel
theorem dc_Sp_settle_95 : decode bc_Sp_settle 95 = .ok (.invokestatic 51, 3) := by decide +kernel
theorem dc_Sp_settle_98 : decode bc_Sp_settle 98 = .ok (.ldc2_w 54, 3) := by decide +kernel
theorem dc_Sp_settle_101 : decode bc_Sp_settle 101 = .ok (.lxor, 1) := by decide +kernel
theorem dc_Sp_settle_102 : decode bc_Sp_settle 102 = .ok (.land, 1) := by decide +kernel
theorem dc_Sp_settle_103 : decode bc_Sp_settle 103 = .ok (.lstore_n 3, 1) := by decide +kernel
theorem dc_Sp_settle_104 : decode bc_Sp_settle 104 = .ok (.goto (59), 3) := by decide +kernel
theorem dc_Sp_settle_107 : decode bc_Sp_settle 107 = .ok (.aload_n 2, 1) := by decide +kernel
theorem dc_Sp_settle_108 : decode bc_Sp_settle 108 = .ok (.aload_n 1, 1) := by decide +kernel
theorem dc_Sp_settle_109 : decode bc_Sp_settle 109 = .ok (.getfield 37, 3) := by decide +kernel
theorem dc_Sp_settle_112 : decode bc_Sp_settle 112 = .ok (.iload 5, 2) := by decide +kernel
theorem dc_Sp_settle_114 : decode bc_Sp_settle 114 = .ok (.invokevirtual 56, 3) := by decide +kernel
theorem dc_Sp_settle_117 : decode bc_Sp_settle 117 = .ok (.aload_n 0, 1) := by decide +kernel
theorem dc_Sp_settle_118 : decode bc_Sp_settle 118 = .ok (.getfield 15, 3) := by decide +kernel
theorem dc_Sp_settle_121 : decode bc_Sp_settle 121 = .ok (.iload 5, 2) := by decide +kernel
theorem dc_Sp_settle_123 : decode bc_Sp_settle 123 = .ok (.aload_n 2, 1) := by decide +kernel
theorem dc_Sp_settle_124 : decode bc_Sp_settle 124 = .ok (.getfield 30, 3) := by decide +kernel
theorem dc_Sp_settle_127 : decode bc_Sp_settle 127 = .ok (.iastore, 1) := by decide +kernel
theorem dc_Sp_settle_128 : decode bc_Sp_settle 128 = .ok (.lload_n 3, 1) := by decide +kernel
theorem dc_Sp_settle_129 : decode bc_Sp_settle 129 = .ok (.aload_n 0, 1) := by decide +kernel
theorem dc_Sp_settle_130 : decode bc_Sp_settle 130 = .ok (.getfield 15, 3) := by decide +kernel
theorem dc_Sp_settle_133 : decode bc_Sp_settle 133 = .ok (.iload 5, 2) := by decide +kernel
theorem dc_Sp_settle_135 : decode bc_Sp_settle 135 = .ok (.iaload, 1) := by decide +kernel
theorem dc_Sp_settle_136 : decode bc_Sp_settle 136 = .ok (.invokestatic 51, 3) := by decide +kernel
theorem dc_Sp_settle_139 : decode bc_Sp_settle 139 = .ok (.lor, 1) := by decide +kernel
theorem dc_Sp_settle_140 : decode bc_Sp_settle 140 = .ok (.lstore_n 3, 1) := by decide +kernel
theorem dc_Sp_settle_141 : decode bc_Sp_settle 141 = .ok (.aload_n 0, 1) := by decide +kernel
theorem dc_Sp_settle_142 : decode bc_Sp_settle 142 = .ok (.aload_n 1, 1) := by decide +kernel
theorem dc_Sp_settle_143 : decode bc_Sp_settle 143 = .ok (.getfield 37, 3) := by decide +kernel
theorem dc_Sp_settle_146 : decode bc_Sp_settle 146 = .ok (.getfield 60, 3) := by decide +kernel
theorem dc_Sp_settle_149 : decode bc_Sp_settle 149 = .ok (.iload 5, 2) := by decide +kernel
theorem dc_Sp_settle_151 : decode bc_Sp_settle 151 = .ok (.iaload, 1) := by decide +kernel
theorem dc_Sp_settle_152 : decode bc_Sp_settle 152 = .ok (.ifCond .eq (7), 3) := by decide +kernel
theorem dc_Sp_settle_155 : decode bc_Sp_settle 155 = .ok (.iconst 1, 1) := by decide +kernel
theorem dc_Sp_settle_156 : decode bc_Sp_settle 156 = .ok (.goto (4), 3) := by decide +kernel
theorem dc_Sp_settle_159 : decode bc_Sp_settle 159 = .ok (.iconst 0, 1) := by decide +kernel
theorem dc_Sp_settle_160 : decode bc_Sp_settle 160 = .ok (.putfield 23, 3) := by decide +kernel
theorem dc_Sp_settle_163 : decode bc_Sp_settle 163 = .ok (.aload_n 0, 1) := by decide +kernel
theorem dc_Sp_settle_164 : decode bc_Sp_settle 164 = .ok (.iload 5, 2) := by decide +kernel
theorem dc_Sp_settle_166 : decode bc_Sp_settle 166 = .ok (.putfield 19, 3) := by decide +kernel
theorem dc_Sp_settle_169 : decode bc_Sp_settle 169 = .ok (.iinc 5 (1), 3) := by decide +kernel
theorem dc_Sp_settle_172 : decode bc_Sp_settle 172 = .ok (.goto (-157), 3) := by decide +kernel
theorem dc_Sp_settle_175 : decode bc_Sp_settle 175 = .ok (.return_, 1) := by decide +kernel
set_option maxHeartbeats 4000000 in
set_option maxRecDepth 100000 in
theorem ct_Sp_settle (l : Launch) (D : va_G) (cI cZ : ClassId) (sz : Nat) (o : Nat) (sa : Nat) (sb : Nat) (k : Nat) (op : Bool) (dl : Nat → Bool) (nu : Nat → Nat) (xd : Nat) (xr : Nat) (da : Nat) (dd : Nat → Bool) (ra : Nat) (rb : Nat) (rd : Nat) (k0 : Nat) (gz : Nat → Nat) (gs : Nat → Nat) (gl : Nat → Int32) (xc : Nat) (ca : Nat) (cb : Nat) (cd : Nat) (n : Nat) (fz : Nat → Nat) (fs : Nat → Nat) (fl : Nat → Int32) (bb : Nat → Nat → Nat) (pm : Nat → Nat → Nat) (hk16 : k0 ≤ 16) (hn32 : n + k0 ≤ 32) (h16 : ∀ j, fs j < 65536) (hg16 : ∀ j, 1 ≤ j → j ≤ k0 → gs j < 65536) (hrow : ∀ i, 1 ≤ i → i ≤ k0 → pt_row gl (i * 8) (gz i) (bb i) (pm i) (gs i)) : Met l yn_Sp_settle (Cond.code yn_Sp_settle bc_Sp_settle 6 none :: kx_all) ({ frames := 3, cells := 0, slots := 0, locals := 66 } : Room) (kp [.ref o, .ref xd, .ref xc] D cI cZ [sp_c o sa sb k op, ar_b cZ sa 17 dl, ar_n cI sb 17 nu, dr_c xd xr da, ar_b cZ da 17 dd, cl_c xr ra rb rd k0, ar_n cI ra 17 gz, ar_n cI rb 17 gs, ar_i cI rd (17 * 8) gl, cl_c xc ca cb cd n, ar_n cI ca 33 fz, ar_n cI cb 33 fs, ar_i cI cd (33 * 8) fl] sz) (kw_q none D kc_l [sp_c o sa sb ((pt_set gz gs gl dd k0 1 (2 ^ (n + 1) - 2) n fz fs fl 0 true dl nu).2.2.2.2.1) ((pt_set gz gs gl dd k0 1 (2 ^ (n + 1) - 2) n fz fs fl 0 true dl nu).2.2.2.2.2.1), ar_b cZ sa 17 ((pt_set gz gs gl dd k0 1 (2 ^ (n + 1) - 2) n fz fs fl 0 true dl nu).2.2.2.2.2.2.1), ar_n cI sb 17 ((pt_set gz gs gl dd k0 1 (2 ^ (n + 1) - 2) n fz fs fl 0 true dl nu).2.2.2.2.2.2.2), dr_c xd xr da, ar_b cZ da 17 dd, cl_c xr ra rb rd k0, ar_n cI ra 17 gz, ar_n cI rb 17 gs, ar_i cI rd (17 * 8) gl, cl_c xc ca cb cd ((pt_set gz gs gl dd k0 1 (2 ^ (n + 1) - 2) n fz fs fl 0 true dl nu).1), ar_n cI ca 33 ((pt_set gz gs gl dd k0 1 (2 ^ (n + 1) - 2) n fz fs fl 0 true dl nu).2.1), ar_n cI cb 33 ((pt_set gz gs gl dd k0 1 (2 ^ (n + 1) - 2) n fz fs fl 0 true dl nu).2.2.1), ar_i cI cd (33 * 8) ((pt_set gz gs gl dd k0 1 (2 ^ (n + 1) - 2) n fz fs fl 0 true dl nu).2.2.2.1)] (va_A [sp_c o sa sb k op, ar_b cZ sa 17 dl, ar_n cI sb 17 nu, dr_c xd xr da, ar_b cZ da 17 dd, cl_c xr ra rb rd k0, ar_n cI ra 17 gz, ar_n cI rb 17 gs, ar_i cI rd (17 * 8) gl, cl_c xc ca cb cd n, ar_n cI ca 33 fz, ar_n cI cb 33 fs, ar_i cI cd (33 * 8) fl] sz)) 0 0 (va_A [sp_c o sa sb k op, ar_b cZ sa 17 dl, ar_n cI sb 17 nu, dr_c xd xr da, ar_b cZ da 17 dd, cl_c xr ra rb rd k0, ar_n cI ra 17 gz, ar_n cI rb 17 gs, ar_i cI rd (17 * 8) gl, cl_c xc ca cb cd n, ar_n cI ca 33 fz, ar_n cI cb 33 fs, ar_i cI cd (33 * 8) fl] sz) := by
  refine kx_metW (by decide) (Nat.le_of_ble_eq_true rfl) ?_
  intro p e s m below meth c ls A hx hb hr hml hts hown hlocks hin hA hP hK hD hN hl hS
  have hown : s.vm.findClass rn_Sp = some m.cls := hown
  have hl : lv_has ls 6 [(0, .ref o), (1, .ref xd), (2, .ref xc)] := hl
  refine lv_aload_n hx hb dc_Sp_settle_0 rfl (lv_at hl 0 rfl) ?_
  refine kw_call0 (wr := [ar_b cZ sa 17 dl, ar_n cI sb 17 nu, dr_c xd xr da, ar_b cZ da 17 dd, cl_c xr ra rb rd k0, ar_n cI ra 17 gz, ar_n cI rb 17 gs, ar_i cI rd (17 * 8) gl, cl_c xc ca cb cd n, ar_n cI ca 33 fz, ar_n cI cb 33 fs, ar_i cI cd (33 * 8) fl]) (ws' := [sp_c o sa sb 0 true, ar_b cZ sa 17 dl, ar_n cI sb 17 nu, dr_c xd xr da, ar_b cZ da 17 dd, cl_c xr ra rb rd k0, ar_n cI ra 17 gz, ar_n cI rb 17 gs, ar_i cI rd (17 * 8) gl, cl_c xc ca cb cd n, ar_n cI ca 33 fz, ar_n cI cb 33 fs, ar_i cI cd (33 * 8) fl]) (va_runV (As := []) (rest := []) ⟨hx, hb, hml, hown, hts⟩ (ct_Sp_forget l D cI cZ _ o sa sb k op) (cwV 0 hts (kx_gV wd_547 wd_497 wd_498 wd_6 wd_499) rfl rfl rfl ⟨rfl, yd_Sp_forget⟩ ⟨Nat.le_of_ble_eq_true rfl, Nat.le_of_ble_eq_true rfl⟩) (kp_V (q0 := 0) (ci := 4) hP hD hK hN [0] rfl rfl rfl rfl rfl) rfl rfl hl.1 rfl (lv_room (Nat.le_of_ble_eq_true rfl)) dc_Sp_settle_1 ⟨Nat.le_of_ble_eq_true rfl, Nat.le_of_ble_eq_true rfl⟩) hP hD hS hA [0] [1, 2, 3, 4, 5, 6, 7, 8, 9, 10, 11, 12] [12, 0, 1, 2, 3, 4, 5, 6, 7, 8, 9, 10, 11] rfl rfl rfl (by decide) rfl rfl (fun H locs hP hD hS => ?_)
  refine lv_aload_n hx hb dc_Sp_settle_4 rfl (lv_at hl 2 rfl) ?_
  refine va_getN (ci := 2) (v := .int (nI n)) (C := rn_Cl) (T := fd_Cl) (N := 4) hx hb hts in_Cl hown hK hP 9 rfl rfl 3 (by decide) (nf_75 hN) (fun _ h9 => h9) rfl dc_Sp_settle_5 ?_
  refine kr_call1 (va_runSN (As := [.int (nI n)]) (rest := []) ⟨hx, hb, hml, hown, hts⟩ (ct_Pt_firstOnes l D cI cZ _ n (by omega)) ⟨va_cnB 1 hts (kx_gi wd_550) rfl rfl rfl (nw_548 hN) (hts _ wd_1) yd_Pt_firstOnes ⟨Nat.le_of_ble_eq_true rfl, Nat.le_of_ble_eq_true rfl⟩, hts _ wd_549, trivial⟩ (kp_S hP hD hK hN [] rfl rfl) rfl rfl hl.1 rfl (lv_room (Nat.le_of_ble_eq_true rfl)) dc_Sp_settle_8 ⟨Nat.le_of_ble_eq_true rfl, Nat.le_of_ble_eq_true rfl⟩) ?_
  refine lv_lstore_n (lv' := [(3, .long (lN (2 ^ (n + 1) - 2))), (0, .ref o), (1, .ref xd), (2, .ref xc)]) hx hb dc_Sp_settle_11 rfl hl (by decide) rfl (fun ls hl => ?_)
  refine lv_iconst (v := nI 1) hx hb dc_Sp_settle_12 (by decide +kernel) ?_
  refine lv_istore (lv' := [(5, .int (nI 1)), (3, .long (lN (2 ^ (n + 1) - 2))), (0, .ref o), (1, .ref xd), (2, .ref xc)]) hx hb dc_Sp_settle_13 hl (by decide) rfl (fun ls hl => ?_)
  have lp_15 : ∀ (K : Nat) (i : Nat) (lv : Nat) (n1 : Nat) (fz1 : Nat → Nat) (fs1 : Nat → Nat) (fl1 : Nat → Int32) (k1 : Nat) (op1 : Bool) (dl1 : Nat → Bool) (nu1 : Nat → Nat) (H : Heap) (locs : List Loc) (ls : Array Slot), k0 + 1 - i < K → va_P D kc_l [sp_c o sa sb k1 op1, ar_b cZ sa 17 dl1, ar_n cI sb 17 nu1, dr_c xd xr da, ar_b cZ da 17 dd, cl_c xr ra rb rd k0, ar_n cI ra 17 gz, ar_n cI rb 17 gs, ar_i cI rd (17 * 8) gl, cl_c xc ca cb cd n1, ar_n cI ca 33 fz1, ar_n cI cb 33 fs1, ar_i cI cd (33 * 8) fl1] H → va_D A [sp_c o sa sb k1 op1, ar_b cZ sa 17 dl1, ar_n cI sb 17 nu1, dr_c xd xr da, ar_b cZ da 17 dd, cl_c xr ra rb rd k0, ar_n cI ra 17 gz, ar_n cI rb 17 gs, ar_i cI rd (17 * 8) gl, cl_c xc ca cb cd n1, ar_n cI ca 33 fz1, ar_n cI cb 33 fs1, ar_i cI cd (33 * 8) fl1] → va_S A s.heap H locs → lv_has ls 6 [(5, .int (nI i)), (3, .long (lN lv)), (0, .ref o), (1, .ref xd), (2, .ref xc)] → (pt_set gz gs gl dd (k0 + 1 - i) i lv n1 fz1 fs1 fl1 k1 op1 dl1 nu1 = pt_set gz gs gl dd k0 1 (2 ^ (n + 1) - 2) n fz fs fl 0 true dl nu) → (1 ≤ i ∧ i ≤ k0 + 1) → (n1 + (k0 + 1 - i) ≤ 32) → (lv < 2 ^ 62) → (∀ j, fs1 j < 65536) → W p l e ({ frames := 3, cells := 0, slots := 0, locals := 66 } : Room) s m ([.ref o, .ref xd, .ref xc] : List Value).toArray below meth c H locs 0 0 (MQ below (kw_q none D kc_l [sp_c o sa sb ((pt_set gz gs gl dd k0 1 (2 ^ (n + 1) - 2) n fz fs fl 0 true dl nu).2.2.2.2.1) ((pt_set gz gs gl dd k0 1 (2 ^ (n + 1) - 2) n fz fs fl 0 true dl nu).2.2.2.2.2.1), ar_b cZ sa 17 ((pt_set gz gs gl dd k0 1 (2 ^ (n + 1) - 2) n fz fs fl 0 true dl nu).2.2.2.2.2.2.1), ar_n cI sb 17 ((pt_set gz gs gl dd k0 1 (2 ^ (n + 1) - 2) n fz fs fl 0 true dl nu).2.2.2.2.2.2.2), dr_c xd xr da, ar_b cZ da 17 dd, cl_c xr ra rb rd k0, ar_n cI ra 17 gz, ar_n cI rb 17 gs, ar_i cI rd (17 * 8) gl, cl_c xc ca cb cd ((pt_set gz gs gl dd k0 1 (2 ^ (n + 1) - 2) n fz fs fl 0 true dl nu).1), ar_n cI ca 33 ((pt_set gz gs gl dd k0 1 (2 ^ (n + 1) - 2) n fz fs fl 0 true dl nu).2.1), ar_n cI cb 33 ((pt_set gz gs gl dd k0 1 (2 ^ (n + 1) - 2) n fz fs fl 0 true dl nu).2.2.1), ar_i cI cd (33 * 8) ((pt_set gz gs gl dd k0 1 (2 ^ (n + 1) - 2) n fz fs fl 0 true dl nu).2.2.2.1)] A) ([.ref o, .ref xd, .ref xc] : List Value).toArray s 0 0 A) (F0 m 15 ls []) := by
    intro K
    induction K with
    | zero =>
      intro i lv n1 fz1 fs1 fl1 k1 op1 dl1 nu1 H locs ls hk
      exact absurd hk (Nat.not_lt_zero _)
    | succ K ih_15 =>
      intro i lv n1 fz1 fs1 fl1 k1 op1 dl1 nu1 H locs ls hk hP hD hS hl h1 h2 h3 hl62 h161
      refine lv_iload hx hb dc_Sp_settle_15 (lv_at hl 0 rfl) ?_
      refine lv_aload_n hx hb dc_Sp_settle_17 rfl (lv_at hl 3 rfl) ?_
      refine va_getN (ci := 3) (v := .ref xr) (C := rn_Dr) (T := fd_Dr) (N := 2) hx hb hts in_Dr hown hK hP 3 rfl rfl 0 (by decide) (nf_88 hN) (fun _ h9 => h9) rfl dc_Sp_settle_18 ?_
      refine va_getN (ci := 2) (v := .int (nI k0)) (C := rn_Cl) (T := fd_Cl) (N := 4) hx hb hts in_Cl hown hK hP 5 rfl rfl 3 (by decide) (nf_75 hN) (fun _ h9 => h9) rfl dc_Sp_settle_21 ?_
      refine kn_icmp_gt hx hb (by omega) (by omega) dc_Sp_settle_24 rfl (fun hc24 => ?_) (fun hc24 => ?_)
      · exact kw_vret hx hb hr hlocks hP hD hS dc_Sp_settle_175 (by rw [← h1, show k0 + 1 - i = 0 by omega, pt_set])
      · refine lv_iload hx hb dc_Sp_settle_27 (lv_at hl 0 rfl) ?_
        refine lv_bipush (v := nI 16) hx hb dc_Sp_settle_29 (by decide +kernel) ?_
        refine kn_icmp_gt hx hb (by omega) (by omega) dc_Sp_settle_31 rfl (fun hc31 => ?_) (fun hc31 => ?_)
        · exfalso; omega
        · refine lv_aload_n hx hb dc_Sp_settle_34 rfl (lv_at hl 2 rfl) ?_
          refine va_get (ci := 4) (v := .int (kb_i op1)) (C := rn_Sp) (T := fd_Sp) (N := 4) hx hb hts in_Sp hown hK hP 0 rfl rfl 3 (by decide) (hts _ wd_118) (fun _ h9 => h9) rfl dc_Sp_settle_35 ?_
          refine kb_if_eq hx hb dc_Sp_settle_38 rfl (fun hc38 => ?_) (fun hc38 => ?_)
          · have hst : pt_set gz gs gl dd (k0 + 1 - i) i lv n1 fz1 fs1 fl1 k1 op1 dl1 nu1 = (n1, fz1, fs1, fl1, k1, op1, dl1, nu1) := by
              rw [show k0 + 1 - i = (k0 + 1 - (i + 1)) + 1 by omega, pt_set, if_pos hc38]
            exact kw_vret hx hb hr hlocks hP hD hS dc_Sp_settle_175 (by rw [← h1, hst])
          · have hst : pt_set gz gs gl dd (k0 + 1 - i) i lv n1 fz1 fs1 fl1 k1 op1 dl1 nu1 = (if dd i = true then pt_set gz gs gl dd (k0 + 1 - (i + 1)) (i + 1) (nb_d lv (2 ^ pt_last (fun j => lv.testBit j && decide (fs1 j = gs i)) n1)) n1 fz1 fs1 fl1 i op1 (va_up dl1 i (dd i)) (va_up nu1 i (pt_last (fun j => lv.testBit j && decide (fs1 j = gs i)) n1)) else pt_set gz gs gl dd (k0 + 1 - (i + 1)) (i + 1) (lv ||| 2 ^ (n1 + 1)) (n1 + 1) (va_up fz1 (n1 + 1) (gz i)) (va_up fs1 (n1 + 1) (gs i)) (va_cpy gl fl1 (i * 8) ((n1 + 1) * 8) (gz i)) i (!decide (gz i = 0)) (va_up dl1 i (dd i)) (va_up nu1 i (n1 + 1))) := by
              rw [show k0 + 1 - i = (k0 + 1 - (i + 1)) + 1 by omega, pt_set, if_neg (by rw [hc38]; decide)]
            refine lv_aload_n hx hb dc_Sp_settle_41 rfl (lv_at hl 2 rfl) ?_
            refine va_get (ci := 4) (v := .ref sa) (C := rn_Sp) (T := fd_Sp) (N := 4) hx hb hts in_Sp hown hK hP 0 rfl rfl 0 (by decide) (hts _ wd_106) (fun _ h9 => h9) rfl dc_Sp_settle_42 ?_
            refine lv_iload hx hb dc_Sp_settle_45 (lv_at hl 0 rfl) ?_
            refine lv_aload_n hx hb dc_Sp_settle_47 rfl (lv_at hl 3 rfl) ?_
            refine va_getN (ci := 3) (v := .ref da) (C := rn_Dr) (T := fd_Dr) (N := 2) hx hb hts in_Dr hown hK hP 3 rfl rfl 1 (by decide) (nf_91 hN) (fun _ h9 => h9) rfl dc_Sp_settle_48 ?_
            refine lv_iload hx hb dc_Sp_settle_51 (lv_at hl 0 rfl) ?_
            refine ka_bald (t := dd) hx hb hK hP 4 1 rfl rfl (j := i) (by omega) (by omega) dc_Sp_settle_53 ?_
            refine ka_bast (t := dl1) hx hb hK hP hD hS 1 1 rfl rfl (j := i) (by omega) (by omega) dc_Sp_settle_54 (ws' := [sp_c o sa sb k1 op1, ar_b cZ sa 17 (va_up dl1 i (dd i)), ar_n cI sb 17 nu1, dr_c xd xr da, ar_b cZ da 17 dd, cl_c xr ra rb rd k0, ar_n cI ra 17 gz, ar_n cI rb 17 gs, ar_i cI rd (17 * 8) gl, cl_c xc ca cb cd n1, ar_n cI ca 33 fz1, ar_n cI cb 33 fs1, ar_i cI cd (33 * 8) fl1]) rfl (fun H locs hP hD hS => ?_)
            refine lv_aload_n hx hb dc_Sp_settle_55 rfl (lv_at hl 2 rfl) ?_
            refine va_get (ci := 4) (v := .ref sa) (C := rn_Sp) (T := fd_Sp) (N := 4) hx hb hts in_Sp hown hK hP 0 rfl rfl 0 (by decide) (hts _ wd_106) (fun _ h9 => h9) rfl dc_Sp_settle_56 ?_
            refine lv_iload hx hb dc_Sp_settle_59 (lv_at hl 0 rfl) ?_
            refine ka_bald (t := va_up dl1 i (dd i)) hx hb hK hP 1 1 rfl rfl (j := i) (by omega) (by omega) dc_Sp_settle_61 ?_
            refine kn_top (y := kb_i (dd i)) (by rw [va_up_self]) ?_
            refine kb_if_eq hx hb dc_Sp_settle_62 rfl (fun hc62 => ?_) (fun hc62 => ?_)
            · refine lv_aload_n hx hb dc_Sp_settle_107 rfl (lv_at hl 4 rfl) ?_
              refine lv_aload_n hx hb dc_Sp_settle_108 rfl (lv_at hl 3 rfl) ?_
              refine va_getN (ci := 3) (v := .ref xr) (C := rn_Dr) (T := fd_Dr) (N := 2) hx hb hts in_Dr hown hK hP 3 rfl rfl 0 (by decide) (nf_88 hN) (fun _ h9 => h9) rfl dc_Sp_settle_109 ?_
              refine lv_iload hx hb dc_Sp_settle_112 (lv_at hl 0 rfl) ?_
              refine kw_call0 (wr := [sp_c o sa sb k1 op1, ar_b cZ sa 17 (va_up dl1 i (dd i)), ar_n cI sb 17 nu1, dr_c xd xr da, ar_b cZ da 17 dd]) (ws' := [sp_c o sa sb k1 op1, ar_b cZ sa 17 (va_up dl1 i (dd i)), ar_n cI sb 17 nu1, dr_c xd xr da, ar_b cZ da 17 dd, cl_c xr ra rb rd k0, ar_n cI ra 17 gz, ar_n cI rb 17 gs, ar_i cI rd (17 * 8) gl, cl_c xc ca cb cd (n1 + 1), ar_n cI ca 33 (va_up fz1 (n1 + 1) (gz i)), ar_n cI cb 33 (va_up fs1 (n1 + 1) (gs i)), ar_i cI cd (33 * 8) (va_cpy gl fl1 (i * 8) ((n1 + 1) * 8) (gz i))]) (va_runV (As := [.ref xr, .int (nI i)]) (rest := []) ⟨hx, hb, hml, hown, hts⟩ (ct_Cl_copy l D cI cZ _ xc ca cb cd 33 n1 fz1 fs1 fl1 xr ra rb rd 17 k0 gz gs gl i (bb i) (pm i) (by decide) (by omega) (by decide) (by omega) (by omega) (by omega) (fun q h1 h2 => (hrow q h1 h2).1) (hrow i (by omega) (by omega))) (cwV 2 hts (kx_gV wd_561 wd_490 wd_491 wd_4 wd_492) rfl rfl rfl ⟨rfl, yd_Cl_copy⟩ ⟨Nat.le_of_ble_eq_true rfl, Nat.le_of_ble_eq_true rfl⟩) (kp_V (q0 := 9) (ci := 2) hP hD hK hN [9, 10, 11, 12, 5, 6, 7, 8] rfl rfl rfl rfl rfl) rfl rfl hl.1 rfl (lv_room (Nat.le_of_ble_eq_true rfl)) dc_Sp_settle_114 ⟨Nat.le_of_ble_eq_true rfl, Nat.le_of_ble_eq_true rfl⟩) hP hD hS hA [9, 10, 11, 12, 5, 6, 7, 8] [0, 1, 2, 3, 4] [0, 1, 2, 3, 4, 9, 10, 11, 12, 5, 6, 7, 8] rfl rfl rfl (by decide) rfl rfl (fun H locs hP hD hS => ?_)
              refine lv_aload_n hx hb dc_Sp_settle_117 rfl (lv_at hl 2 rfl) ?_
              refine va_get (ci := 4) (v := .ref sb) (C := rn_Sp) (T := fd_Sp) (N := 4) hx hb hts in_Sp hown hK hP 0 rfl rfl 1 (by decide) (hts _ wd_110) (fun _ h9 => h9) rfl dc_Sp_settle_118 ?_
              refine lv_iload hx hb dc_Sp_settle_121 (lv_at hl 0 rfl) ?_
              refine lv_aload_n hx hb dc_Sp_settle_123 rfl (lv_at hl 4 rfl) ?_
              refine va_getN (ci := 2) (v := .int (nI (n1 + 1))) (C := rn_Cl) (T := fd_Cl) (N := 4) hx hb hts in_Cl hown hK hP 9 rfl rfl 3 (by decide) (nf_75 hN) (fun _ h9 => h9) rfl dc_Sp_settle_124 ?_
              refine ka_nast (t := nu1) hx hb hK hP hD hS 2 0 rfl rfl (j := i) (by omega) (by omega) dc_Sp_settle_127 (ws' := [sp_c o sa sb k1 op1, ar_b cZ sa 17 (va_up dl1 i (dd i)), ar_n cI sb 17 (va_up nu1 i (n1 + 1)), dr_c xd xr da, ar_b cZ da 17 dd, cl_c xr ra rb rd k0, ar_n cI ra 17 gz, ar_n cI rb 17 gs, ar_i cI rd (17 * 8) gl, cl_c xc ca cb cd (n1 + 1), ar_n cI ca 33 (va_up fz1 (n1 + 1) (gz i)), ar_n cI cb 33 (va_up fs1 (n1 + 1) (gs i)), ar_i cI cd (33 * 8) (va_cpy gl fl1 (i * 8) ((n1 + 1) * 8) (gz i))]) rfl (fun H locs hP hD hS => ?_)
              refine lv_lload_n hx hb dc_Sp_settle_128 rfl (lv_at hl 1 rfl) ?_
              refine lv_aload_n hx hb dc_Sp_settle_129 rfl (lv_at hl 2 rfl) ?_
              refine va_get (ci := 4) (v := .ref sb) (C := rn_Sp) (T := fd_Sp) (N := 4) hx hb hts in_Sp hown hK hP 0 rfl rfl 1 (by decide) (hts _ wd_110) (fun _ h9 => h9) rfl dc_Sp_settle_130 ?_
              refine lv_iload hx hb dc_Sp_settle_133 (lv_at hl 0 rfl) ?_
              refine ka_nald (t := va_up nu1 i (n1 + 1)) hx hb hK hP 2 0 rfl rfl (j := i) (by omega) (by omega) dc_Sp_settle_135 ?_
              refine kn_top (y := nI (n1 + 1)) (by rw [va_up_self]) ?_
              refine kr_call1 (va_runSN (As := [.int (nI (n1 + 1))]) (rest := [.long (lN lv)]) ⟨hx, hb, hml, hown, hts⟩ (ct_Pt_one l D cI cZ _ (n1 + 1) (by omega)) ⟨va_cnB 1 hts (kx_gi wd_559) rfl rfl rfl (nw_557 hN) (hts _ wd_1) yd_Pt_one ⟨Nat.le_of_ble_eq_true rfl, Nat.le_of_ble_eq_true rfl⟩, hts _ wd_558, trivial⟩ (kp_S hP hD hK hN [] rfl rfl) rfl rfl hl.1 rfl (lv_room (Nat.le_of_ble_eq_true rfl)) dc_Sp_settle_136 ⟨Nat.le_of_ble_eq_true rfl, Nat.le_of_ble_eq_true rfl⟩) ?_
              refine kl_lor hx hb dc_Sp_settle_139 ?_
              refine lv_lstore_n (lv' := [(3, .long (lN (lv ||| (2 ^ (n1 + 1))))), (5, .int (nI i)), (0, .ref o), (1, .ref xd), (2, .ref xc)]) hx hb dc_Sp_settle_140 rfl hl (by decide) rfl (fun ls hl => ?_)
              refine lv_aload_n hx hb dc_Sp_settle_141 rfl (lv_at hl 2 rfl) ?_
              refine lv_aload_n hx hb dc_Sp_settle_142 rfl (lv_at hl 3 rfl) ?_
              refine va_getN (ci := 3) (v := .ref xr) (C := rn_Dr) (T := fd_Dr) (N := 2) hx hb hts in_Dr hown hK hP 3 rfl rfl 0 (by decide) (nf_88 hN) (fun _ h9 => h9) rfl dc_Sp_settle_143 ?_
              refine va_getN (ci := 2) (v := .ref ra) (C := rn_Cl) (T := fd_Cl) (N := 4) hx hb hts in_Cl hown hK hP 5 rfl rfl 0 (by decide) (nf_66 hN) (fun _ h9 => h9) rfl dc_Sp_settle_146 ?_
              refine lv_iload hx hb dc_Sp_settle_149 (lv_at hl 1 rfl) ?_
              refine ka_nald (t := gz) hx hb hK hP 6 0 rfl rfl (j := i) (by omega) (by omega) dc_Sp_settle_151 ?_
              refine kn_if_eq hx hb (Nat.lt_of_le_of_lt (hrow i (by omega) (by omega)).1 (by decide)) dc_Sp_settle_152 rfl (fun hc152 => ?_) (fun hc152 => ?_)
              · refine lv_iconst (v := nI 0) hx hb dc_Sp_settle_159 (by decide +kernel) ?_
                refine kn_top (y := kb_i false) (by decide +kernel) ?_
                refine va_put (ci := 4) (v := .int (kb_i false)) (ty := .boolean) (C := rn_Sp) (T := fd_Sp) (N := 4) hx hb hts in_Sp ty_Sp tk_Sp nm_Sp hown hK hP hD hS 0 rfl rfl 3 (by decide) (hts _ wd_118) (fun _ h9 => h9) rfl (by decide +kernel) (kb_nar _) (kb_fit _) (Nat.le_of_ble_eq_true rfl) dc_Sp_settle_160 (fun H locs hP hD hS => ?_)
                have hP : va_P D kc_l [sp_c o sa sb k1 false, ar_b cZ sa 17 (va_up dl1 i (dd i)), ar_n cI sb 17 (va_up nu1 i (n1 + 1)), dr_c xd xr da, ar_b cZ da 17 dd, cl_c xr ra rb rd k0, ar_n cI ra 17 gz, ar_n cI rb 17 gs, ar_i cI rd (17 * 8) gl, cl_c xc ca cb cd (n1 + 1), ar_n cI ca 33 (va_up fz1 (n1 + 1) (gz i)), ar_n cI cb 33 (va_up fs1 (n1 + 1) (gs i)), ar_i cI cd (33 * 8) (va_cpy gl fl1 (i * 8) ((n1 + 1) * 8) (gz i))] H := hP
                have hD : va_D A [sp_c o sa sb k1 false, ar_b cZ sa 17 (va_up dl1 i (dd i)), ar_n cI sb 17 (va_up nu1 i (n1 + 1)), dr_c xd xr da, ar_b cZ da 17 dd, cl_c xr ra rb rd k0, ar_n cI ra 17 gz, ar_n cI rb 17 gs, ar_i cI rd (17 * 8) gl, cl_c xc ca cb cd (n1 + 1), ar_n cI ca 33 (va_up fz1 (n1 + 1) (gz i)), ar_n cI cb 33 (va_up fs1 (n1 + 1) (gs i)), ar_i cI cd (33 * 8) (va_cpy gl fl1 (i * 8) ((n1 + 1) * 8) (gz i))] := hD
                refine lv_aload_n hx hb dc_Sp_settle_163 rfl (lv_at hl 2 rfl) ?_
                refine lv_iload hx hb dc_Sp_settle_164 (lv_at hl 1 rfl) ?_
                refine va_put (ci := 4) (v := .int (nI i)) (ty := .int) (C := rn_Sp) (T := fd_Sp) (N := 4) hx hb hts in_Sp ty_Sp tk_Sp nm_Sp hown hK hP hD hS 0 rfl rfl 2 (by decide) (hts _ wd_114) (fun _ h9 => h9) rfl (by decide +kernel) rfl rfl (Nat.le_of_ble_eq_true rfl) dc_Sp_settle_166 (fun H locs hP hD hS => ?_)
                have hP : va_P D kc_l [sp_c o sa sb i false, ar_b cZ sa 17 (va_up dl1 i (dd i)), ar_n cI sb 17 (va_up nu1 i (n1 + 1)), dr_c xd xr da, ar_b cZ da 17 dd, cl_c xr ra rb rd k0, ar_n cI ra 17 gz, ar_n cI rb 17 gs, ar_i cI rd (17 * 8) gl, cl_c xc ca cb cd (n1 + 1), ar_n cI ca 33 (va_up fz1 (n1 + 1) (gz i)), ar_n cI cb 33 (va_up fs1 (n1 + 1) (gs i)), ar_i cI cd (33 * 8) (va_cpy gl fl1 (i * 8) ((n1 + 1) * 8) (gz i))] H := hP
                have hD : va_D A [sp_c o sa sb i false, ar_b cZ sa 17 (va_up dl1 i (dd i)), ar_n cI sb 17 (va_up nu1 i (n1 + 1)), dr_c xd xr da, ar_b cZ da 17 dd, cl_c xr ra rb rd k0, ar_n cI ra 17 gz, ar_n cI rb 17 gs, ar_i cI rd (17 * 8) gl, cl_c xc ca cb cd (n1 + 1), ar_n cI ca 33 (va_up fz1 (n1 + 1) (gz i)), ar_n cI cb 33 (va_up fs1 (n1 + 1) (gs i)), ar_i cI cd (33 * 8) (va_cpy gl fl1 (i * 8) ((n1 + 1) * 8) (gz i))] := hD
                refine lv_iinc (k := 1) (v := nI (i + 1)) (lv' := [(5, .int (nI (i + 1))), (3, .long (lN (lv ||| (2 ^ (n1 + 1))))), (0, .ref o), (1, .ref xd), (2, .ref xc)]) hx hb dc_Sp_settle_169 hl rfl (nI_1 _) (by decide) rfl (fun ls hl => ?_)
                refine lv_goto hx hb dc_Sp_settle_172 rfl ?_
                exact ih_15 _ _ _ _ _ _ _ _ _ _ _ _ _ (by omega) hP hD hS hl (by rw [← h1, hst, if_neg (by rw [hc62]; decide), show (!decide (gz i = 0)) = false by rw [decide_eq_true hc152]; rfl]) (⟨by omega, by omega⟩) (by omega) (Nat.or_lt_two_pow hl62 (Nat.pow_lt_pow_right (by decide) (by omega))) (fun j => by unfold va_up; split; exact hg16 i (by omega) (by omega); exact h161 j)
              · refine lv_iconst (v := nI 1) hx hb dc_Sp_settle_155 (by decide +kernel) ?_
                refine lv_goto hx hb dc_Sp_settle_156 rfl ?_
                refine kn_top (y := kb_i true) (by decide +kernel) ?_
                refine va_put (ci := 4) (v := .int (kb_i true)) (ty := .boolean) (C := rn_Sp) (T := fd_Sp) (N := 4) hx hb hts in_Sp ty_Sp tk_Sp nm_Sp hown hK hP hD hS 0 rfl rfl 3 (by decide) (hts _ wd_118) (fun _ h9 => h9) rfl (by decide +kernel) (kb_nar _) (kb_fit _) (Nat.le_of_ble_eq_true rfl) dc_Sp_settle_160 (fun H locs hP hD hS => ?_)
                have hP : va_P D kc_l [sp_c o sa sb k1 true, ar_b cZ sa 17 (va_up dl1 i (dd i)), ar_n cI sb 17 (va_up nu1 i (n1 + 1)), dr_c xd xr da, ar_b cZ da 17 dd, cl_c xr ra rb rd k0, ar_n cI ra 17 gz, ar_n cI rb 17 gs, ar_i cI rd (17 * 8) gl, cl_c xc ca cb cd (n1 + 1), ar_n cI ca 33 (va_up fz1 (n1 + 1) (gz i)), ar_n cI cb 33 (va_up fs1 (n1 + 1) (gs i)), ar_i cI cd (33 * 8) (va_cpy gl fl1 (i * 8) ((n1 + 1) * 8) (gz i))] H := hP
                have hD : va_D A [sp_c o sa sb k1 true, ar_b cZ sa 17 (va_up dl1 i (dd i)), ar_n cI sb 17 (va_up nu1 i (n1 + 1)), dr_c xd xr da, ar_b cZ da 17 dd, cl_c xr ra rb rd k0, ar_n cI ra 17 gz, ar_n cI rb 17 gs, ar_i cI rd (17 * 8) gl, cl_c xc ca cb cd (n1 + 1), ar_n cI ca 33 (va_up fz1 (n1 + 1) (gz i)), ar_n cI cb 33 (va_up fs1 (n1 + 1) (gs i)), ar_i cI cd (33 * 8) (va_cpy gl fl1 (i * 8) ((n1 + 1) * 8) (gz i))] := hD
                refine lv_aload_n hx hb dc_Sp_settle_163 rfl (lv_at hl 2 rfl) ?_
                refine lv_iload hx hb dc_Sp_settle_164 (lv_at hl 1 rfl) ?_
                refine va_put (ci := 4) (v := .int (nI i)) (ty := .int) (C := rn_Sp) (T := fd_Sp) (N := 4) hx hb hts in_Sp ty_Sp tk_Sp nm_Sp hown hK hP hD hS 0 rfl rfl 2 (by decide) (hts _ wd_114) (fun _ h9 => h9) rfl (by decide +kernel) rfl rfl (Nat.le_of_ble_eq_true rfl) dc_Sp_settle_166 (fun H locs hP hD hS => ?_)
                have hP : va_P D kc_l [sp_c o sa sb i true, ar_b cZ sa 17 (va_up dl1 i (dd i)), ar_n cI sb 17 (va_up nu1 i (n1 + 1)), dr_c xd xr da, ar_b cZ da 17 dd, cl_c xr ra rb rd k0, ar_n cI ra 17 gz, ar_n cI rb 17 gs, ar_i cI rd (17 * 8) gl, cl_c xc ca cb cd (n1 + 1), ar_n cI ca 33 (va_up fz1 (n1 + 1) (gz i)), ar_n cI cb 33 (va_up fs1 (n1 + 1) (gs i)), ar_i cI cd (33 * 8) (va_cpy gl fl1 (i * 8) ((n1 + 1) * 8) (gz i))] H := hP
                have hD : va_D A [sp_c o sa sb i true, ar_b cZ sa 17 (va_up dl1 i (dd i)), ar_n cI sb 17 (va_up nu1 i (n1 + 1)), dr_c xd xr da, ar_b cZ da 17 dd, cl_c xr ra rb rd k0, ar_n cI ra 17 gz, ar_n cI rb 17 gs, ar_i cI rd (17 * 8) gl, cl_c xc ca cb cd (n1 + 1), ar_n cI ca 33 (va_up fz1 (n1 + 1) (gz i)), ar_n cI cb 33 (va_up fs1 (n1 + 1) (gs i)), ar_i cI cd (33 * 8) (va_cpy gl fl1 (i * 8) ((n1 + 1) * 8) (gz i))] := hD
                refine lv_iinc (k := 1) (v := nI (i + 1)) (lv' := [(5, .int (nI (i + 1))), (3, .long (lN (lv ||| (2 ^ (n1 + 1))))), (0, .ref o), (1, .ref xd), (2, .ref xc)]) hx hb dc_Sp_settle_169 hl rfl (nI_1 _) (by decide) rfl (fun ls hl => ?_)
                refine lv_goto hx hb dc_Sp_settle_172 rfl ?_
                exact ih_15 _ _ _ _ _ _ _ _ _ _ _ _ _ (by omega) hP hD hS hl (by rw [← h1, hst, if_neg (by rw [hc62]; decide), show (!decide (gz i = 0)) = true by rw [decide_eq_false hc152]; rfl]) (⟨by omega, by omega⟩) (by omega) (Nat.or_lt_two_pow hl62 (Nat.pow_lt_pow_right (by decide) (by omega))) (fun j => by unfold va_up; split; exact hg16 i (by omega) (by omega); exact h161 j)
            · refine lv_aload_n hx hb dc_Sp_settle_65 rfl (lv_at hl 2 rfl) ?_
              refine va_get (ci := 4) (v := .ref sb) (C := rn_Sp) (T := fd_Sp) (N := 4) hx hb hts in_Sp hown hK hP 0 rfl rfl 1 (by decide) (hts _ wd_110) (fun _ h9 => h9) rfl dc_Sp_settle_66 ?_
              refine lv_iload hx hb dc_Sp_settle_69 (lv_at hl 0 rfl) ?_
              refine lv_aload_n hx hb dc_Sp_settle_71 rfl (lv_at hl 4 rfl) ?_
              refine lv_lload_n hx hb dc_Sp_settle_72 rfl (lv_at hl 1 rfl) ?_
              refine lv_aload_n hx hb dc_Sp_settle_73 rfl (lv_at hl 3 rfl) ?_
              refine va_getN (ci := 3) (v := .ref xr) (C := rn_Dr) (T := fd_Dr) (N := 2) hx hb hts in_Dr hown hK hP 3 rfl rfl 0 (by decide) (nf_88 hN) (fun _ h9 => h9) rfl dc_Sp_settle_74 ?_
              refine va_getN (ci := 2) (v := .ref rb) (C := rn_Cl) (T := fd_Cl) (N := 4) hx hb hts in_Cl hown hK hP 5 rfl rfl 1 (by decide) (nf_71 hN) (fun _ h9 => h9) rfl dc_Sp_settle_77 ?_
              refine lv_iload hx hb dc_Sp_settle_80 (lv_at hl 0 rfl) ?_
              refine ka_nald (t := gs) hx hb hK hP 7 0 rfl rfl (j := i) (by omega) (by omega) dc_Sp_settle_82 ?_
              refine kr_call1 (va_runV (As := [.long (lN lv), .int (nI (gs i))]) (rest := [.int (nI i), .ref sb]) ⟨hx, hb, hml, hown, hts⟩ (ct_Cl_greatestAlike l D cI cZ _ xc ca cb cd 33 n1 fz1 fs1 fl1 lv (gs i) (by decide) (by omega) (by omega) (hl62) (h161) (hg16 i (by omega) (by omega))) (cwV 2 hts (kx_gV wd_552 wd_553 wd_554 wd_4 wd_555) rfl rfl rfl ⟨rfl, yd_Cl_greatestAlike⟩ ⟨Nat.le_of_ble_eq_true rfl, Nat.le_of_ble_eq_true rfl⟩) (kp_V (q0 := 9) (ci := 2) hP hD hK hN [9, 10, 11, 12] rfl rfl rfl rfl rfl) rfl rfl hl.1 rfl (lv_room (Nat.le_of_ble_eq_true rfl)) dc_Sp_settle_83 ⟨Nat.le_of_ble_eq_true rfl, Nat.le_of_ble_eq_true rfl⟩) ?_
              refine ka_nast (t := nu1) hx hb hK hP hD hS 2 0 rfl rfl (j := i) (by omega) (by omega) dc_Sp_settle_86 (ws' := [sp_c o sa sb k1 op1, ar_b cZ sa 17 (va_up dl1 i (dd i)), ar_n cI sb 17 (va_up nu1 i (pt_last (fun j => lv.testBit j && decide (fs1 j = (gs i))) n1)), dr_c xd xr da, ar_b cZ da 17 dd, cl_c xr ra rb rd k0, ar_n cI ra 17 gz, ar_n cI rb 17 gs, ar_i cI rd (17 * 8) gl, cl_c xc ca cb cd n1, ar_n cI ca 33 fz1, ar_n cI cb 33 fs1, ar_i cI cd (33 * 8) fl1]) rfl (fun H locs hP hD hS => ?_)
              refine lv_lload_n hx hb dc_Sp_settle_87 rfl (lv_at hl 1 rfl) ?_
              refine lv_aload_n hx hb dc_Sp_settle_88 rfl (lv_at hl 2 rfl) ?_
              refine va_get (ci := 4) (v := .ref sb) (C := rn_Sp) (T := fd_Sp) (N := 4) hx hb hts in_Sp hown hK hP 0 rfl rfl 1 (by decide) (hts _ wd_110) (fun _ h9 => h9) rfl dc_Sp_settle_89 ?_
              refine lv_iload hx hb dc_Sp_settle_92 (lv_at hl 0 rfl) ?_
              refine ka_nald (t := va_up nu1 i (pt_last (fun j => lv.testBit j && decide (fs1 j = (gs i))) n1)) hx hb hK hP 2 0 rfl rfl (j := i) (by omega) (by omega) dc_Sp_settle_94 ?_
              refine kn_top (y := nI (pt_last (fun j => lv.testBit j && decide (fs1 j = gs i)) n1)) (by rw [va_up_self]) ?_
              refine kr_call1 (va_runSN (As := [.int (nI (pt_last (fun j => lv.testBit j && decide (fs1 j = gs i)) n1))]) (rest := [.long (lN lv)]) ⟨hx, hb, hml, hown, hts⟩ (ct_Pt_one l D cI cZ _ (pt_last (fun j => lv.testBit j && decide (fs1 j = gs i)) n1) (by have := pt_last_le (fun j => lv.testBit j && decide (fs1 j = gs i)) n1; omega)) ⟨va_cnB 1 hts (kx_gi wd_559) rfl rfl rfl (nw_557 hN) (hts _ wd_1) yd_Pt_one ⟨Nat.le_of_ble_eq_true rfl, Nat.le_of_ble_eq_true rfl⟩, hts _ wd_558, trivial⟩ (kp_S hP hD hK hN [] rfl rfl) rfl rfl hl.1 rfl (lv_room (Nat.le_of_ble_eq_true rfl)) dc_Sp_settle_95 ⟨Nat.le_of_ble_eq_true rfl, Nat.le_of_ble_eq_true rfl⟩) ?_
              refine kl_ldc2 (y := (-1)) hx hb hown (hts _ wd_560) dc_Sp_settle_98 (by decide +kernel) ?_
              refine lv_lxor hx hb dc_Sp_settle_101 ?_
              refine kl_lnot hx hb dc_Sp_settle_102 ?_
              refine lv_lstore_n (lv' := [(3, .long (lN (nb_d lv (2 ^ (pt_last (fun j => lv.testBit j && decide (fs1 j = gs i)) n1))))), (5, .int (nI i)), (0, .ref o), (1, .ref xd), (2, .ref xc)]) hx hb dc_Sp_settle_103 rfl hl (by decide) rfl (fun ls hl => ?_)
              refine lv_goto hx hb dc_Sp_settle_104 rfl ?_
              refine lv_aload_n hx hb dc_Sp_settle_163 rfl (lv_at hl 2 rfl) ?_
              refine lv_iload hx hb dc_Sp_settle_164 (lv_at hl 1 rfl) ?_
              refine va_put (ci := 4) (v := .int (nI i)) (ty := .int) (C := rn_Sp) (T := fd_Sp) (N := 4) hx hb hts in_Sp ty_Sp tk_Sp nm_Sp hown hK hP hD hS 0 rfl rfl 2 (by decide) (hts _ wd_114) (fun _ h9 => h9) rfl (by decide +kernel) rfl rfl (Nat.le_of_ble_eq_true rfl) dc_Sp_settle_166 (fun H locs hP hD hS => ?_)
              have hP : va_P D kc_l [sp_c o sa sb i op1, ar_b cZ sa 17 (va_up dl1 i (dd i)), ar_n cI sb 17 (va_up nu1 i (pt_last (fun j => lv.testBit j && decide (fs1 j = (gs i))) n1)), dr_c xd xr da, ar_b cZ da 17 dd, cl_c xr ra rb rd k0, ar_n cI ra 17 gz, ar_n cI rb 17 gs, ar_i cI rd (17 * 8) gl, cl_c xc ca cb cd n1, ar_n cI ca 33 fz1, ar_n cI cb 33 fs1, ar_i cI cd (33 * 8) fl1] H := hP
              have hD : va_D A [sp_c o sa sb i op1, ar_b cZ sa 17 (va_up dl1 i (dd i)), ar_n cI sb 17 (va_up nu1 i (pt_last (fun j => lv.testBit j && decide (fs1 j = (gs i))) n1)), dr_c xd xr da, ar_b cZ da 17 dd, cl_c xr ra rb rd k0, ar_n cI ra 17 gz, ar_n cI rb 17 gs, ar_i cI rd (17 * 8) gl, cl_c xc ca cb cd n1, ar_n cI ca 33 fz1, ar_n cI cb 33 fs1, ar_i cI cd (33 * 8) fl1] := hD
              refine lv_iinc (k := 1) (v := nI (i + 1)) (lv' := [(5, .int (nI (i + 1))), (3, .long (lN (nb_d lv (2 ^ (pt_last (fun j => lv.testBit j && decide (fs1 j = gs i)) n1))))), (0, .ref o), (1, .ref xd), (2, .ref xc)]) hx hb dc_Sp_settle_169 hl rfl (nI_1 _) (by decide) rfl (fun ls hl => ?_)
              refine lv_goto hx hb dc_Sp_settle_172 rfl ?_
              exact ih_15 _ _ _ _ _ _ _ _ _ _ _ _ _ (by omega) hP hD hS hl (by rw [← h1, hst, if_pos hc62]) (⟨by omega, by omega⟩) (by omega) (nb_d_lt hl62) (h161)
  exact lp_15 _ _ _ _ _ _ _ _ _ _ _ _ _ _ (Nat.lt_succ_self _) hP hD hS hl (rfl) (⟨by omega, by omega⟩) (by omega) (Nat.lt_of_le_of_lt (Nat.sub_le _ _) (Nat.pow_lt_pow_right (by decide) (by omega))) (h16)
