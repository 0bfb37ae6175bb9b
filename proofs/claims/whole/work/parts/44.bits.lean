/-! the bits of a long are counted -/
theorem ls_sub {a b : Nat} (h : b ≤ a) : lN a - lN b = lN (a - b) := by
  apply Int64.toBitVec_inj.1
  show BitVec.ofNat 64 a - BitVec.ofNat 64 b = BitVec.ofNat 64 (a - b)
  apply BitVec.eq_of_toNat_eq
  simp only [BitVec.toNat_sub, BitVec.toNat_ofNat]
  omega
theorem ls_add (a b : Nat) : lN a + lN b = lN (a + b) := by
  apply Int64.toBitVec_inj.1
  show BitVec.ofNat 64 a + BitVec.ofNat 64 b = BitVec.ofNat 64 (a + b)
  apply BitVec.eq_of_toNat_eq
  simp only [BitVec.toNat_add, BitVec.toNat_ofNat]
  omega
theorem ls_ushr {x k : Nat} {z : UInt64} (hx : x < 2 ^ 63) (hz : z.toNat % 64 = k) : ((lN x).toUInt64 >>> z).toInt64 = lN (x / 2 ^ k) := by
  apply Int64.toBitVec_inj.1
  apply BitVec.eq_of_toNat_eq
  show ((lN x).toUInt64 >>> z).toNat = (BitVec.ofNat 64 (x / 2 ^ k)).toNat
  have h1 : (lN x).toUInt64.toNat = x := by
    show (BitVec.ofNat 64 x).toNat = x
    rw [BitVec.toNat_ofNat, Nat.mod_eq_of_lt (by omega)]
  rw [UInt64.toNat_shiftRight, h1, hz, BitVec.toNat_ofNat, Nat.shiftRight_eq_div_pow, Nat.mod_eq_of_lt]
  exact Nat.lt_of_le_of_lt (Nat.div_le_self _ _) (by omega)

theorem dc_Lo_bitCount_0 : decode prog_16_method_50_code 0 = .ok (.lload_n 0, 1) := by decide +kernel
theorem dc_Lo_bitCount_1 : decode prog_16_method_50_code 1 = .ok (.lload_n 0, 1) := by decide +kernel
theorem dc_Lo_bitCount_2 : decode prog_16_method_50_code 2 = .ok (.iconst 1, 1) := by decide +kernel
theorem dc_Lo_bitCount_3 : decode prog_16_method_50_code 3 = .ok (.lushr, 1) := by decide +kernel
theorem dc_Lo_bitCount_4 : decode prog_16_method_50_code 4 = .ok (.ldc2_w 314, 3) := by decide +kernel
theorem dc_Lo_bitCount_7 : decode prog_16_method_50_code 7 = .ok (.land, 1) := by decide +kernel
theorem dc_Lo_bitCount_8 : decode prog_16_method_50_code 8 = .ok (.lsub, 1) := by decide +kernel
theorem dc_Lo_bitCount_9 : decode prog_16_method_50_code 9 = .ok (.lstore_n 0, 1) := by decide +kernel
theorem dc_Lo_bitCount_10 : decode prog_16_method_50_code 10 = .ok (.lload_n 0, 1) := by decide +kernel
theorem dc_Lo_bitCount_11 : decode prog_16_method_50_code 11 = .ok (.ldc2_w 316, 3) := by decide +kernel
theorem dc_Lo_bitCount_14 : decode prog_16_method_50_code 14 = .ok (.land, 1) := by decide +kernel
theorem dc_Lo_bitCount_15 : decode prog_16_method_50_code 15 = .ok (.lload_n 0, 1) := by decide +kernel
theorem dc_Lo_bitCount_16 : decode prog_16_method_50_code 16 = .ok (.iconst 2, 1) := by decide +kernel
theorem dc_Lo_bitCount_17 : decode prog_16_method_50_code 17 = .ok (.lushr, 1) := by decide +kernel
theorem dc_Lo_bitCount_18 : decode prog_16_method_50_code 18 = .ok (.ldc2_w 316, 3) := by decide +kernel
theorem dc_Lo_bitCount_21 : decode prog_16_method_50_code 21 = .ok (.land, 1) := by decide +kernel
theorem dc_Lo_bitCount_22 : decode prog_16_method_50_code 22 = .ok (.ladd, 1) := by decide +kernel
theorem dc_Lo_bitCount_23 : decode prog_16_method_50_code 23 = .ok (.lstore_n 0, 1) := by decide +kernel
theorem dc_Lo_bitCount_24 : decode prog_16_method_50_code 24 = .ok (.lload_n 0, 1) := by decide +kernel
theorem dc_Lo_bitCount_25 : decode prog_16_method_50_code 25 = .ok (.lload_n 0, 1) := by decide +kernel
theorem dc_Lo_bitCount_26 : decode prog_16_method_50_code 26 = .ok (.iconst 4, 1) := by decide +kernel
theorem dc_Lo_bitCount_27 : decode prog_16_method_50_code 27 = .ok (.lushr, 1) := by decide +kernel
theorem dc_Lo_bitCount_28 : decode prog_16_method_50_code 28 = .ok (.ladd, 1) := by decide +kernel
theorem dc_Lo_bitCount_29 : decode prog_16_method_50_code 29 = .ok (.ldc2_w 318, 3) := by decide +kernel
theorem dc_Lo_bitCount_32 : decode prog_16_method_50_code 32 = .ok (.land, 1) := by decide +kernel
theorem dc_Lo_bitCount_33 : decode prog_16_method_50_code 33 = .ok (.lstore_n 0, 1) := by decide +kernel
theorem dc_Lo_bitCount_34 : decode prog_16_method_50_code 34 = .ok (.lload_n 0, 1) := by decide +kernel
theorem dc_Lo_bitCount_35 : decode prog_16_method_50_code 35 = .ok (.lload_n 0, 1) := by decide +kernel
theorem dc_Lo_bitCount_36 : decode prog_16_method_50_code 36 = .ok (.bipush (8), 2) := by decide +kernel
theorem dc_Lo_bitCount_38 : decode prog_16_method_50_code 38 = .ok (.lushr, 1) := by decide +kernel
theorem dc_Lo_bitCount_39 : decode prog_16_method_50_code 39 = .ok (.ladd, 1) := by decide +kernel
theorem dc_Lo_bitCount_40 : decode prog_16_method_50_code 40 = .ok (.lstore_n 0, 1) := by decide +kernel
theorem dc_Lo_bitCount_41 : decode prog_16_method_50_code 41 = .ok (.lload_n 0, 1) := by decide +kernel
theorem dc_Lo_bitCount_42 : decode prog_16_method_50_code 42 = .ok (.lload_n 0, 1) := by decide +kernel
theorem dc_Lo_bitCount_43 : decode prog_16_method_50_code 43 = .ok (.bipush (16), 2) := by decide +kernel
theorem dc_Lo_bitCount_45 : decode prog_16_method_50_code 45 = .ok (.lushr, 1) := by decide +kernel
theorem dc_Lo_bitCount_46 : decode prog_16_method_50_code 46 = .ok (.ladd, 1) := by decide +kernel
theorem dc_Lo_bitCount_47 : decode prog_16_method_50_code 47 = .ok (.lstore_n 0, 1) := by decide +kernel
theorem dc_Lo_bitCount_48 : decode prog_16_method_50_code 48 = .ok (.lload_n 0, 1) := by decide +kernel
theorem dc_Lo_bitCount_49 : decode prog_16_method_50_code 49 = .ok (.lload_n 0, 1) := by decide +kernel
theorem dc_Lo_bitCount_50 : decode prog_16_method_50_code 50 = .ok (.bipush (32), 2) := by decide +kernel
theorem dc_Lo_bitCount_52 : decode prog_16_method_50_code 52 = .ok (.lushr, 1) := by decide +kernel
theorem dc_Lo_bitCount_53 : decode prog_16_method_50_code 53 = .ok (.ladd, 1) := by decide +kernel
theorem dc_Lo_bitCount_54 : decode prog_16_method_50_code 54 = .ok (.lstore_n 0, 1) := by decide +kernel
theorem dc_Lo_bitCount_55 : decode prog_16_method_50_code 55 = .ok (.lload_n 0, 1) := by decide +kernel
theorem dc_Lo_bitCount_56 : decode prog_16_method_50_code 56 = .ok (.l2i, 1) := by decide +kernel
theorem dc_Lo_bitCount_57 : decode prog_16_method_50_code 57 = .ok (.bipush (127), 2) := by decide +kernel
theorem dc_Lo_bitCount_59 : decode prog_16_method_50_code 59 = .ok (.iand, 1) := by decide +kernel
theorem dc_Lo_bitCount_60 : decode prog_16_method_50_code 60 = .ok (.ireturn, 1) := by decide +kernel
theorem wx_21 : Cond.initialized "java/lang/Long" ∈ kx_all := kx_1 21 rfl rfl
theorem wx_657 : Cond.methodLink "ProofTrimmer" 154 ⟨"java/lang/Long", "bitCount", "(J)I"⟩ ∈ kx_all := kx_3 177 rfl rfl
theorem wx_658 : Cond.static ⟨"java/lang/Long", "bitCount", "(J)I"⟩ ∈ kx_all := kx_3 178 rfl rfl
theorem wx_659 : Cond.code ⟨"java/lang/Long", "bitCount", "(J)I"⟩ prog_16_method_50_code 2 (Option.some .int) ∈ kx_all := kx_3 179 rfl rfl
theorem wx_660 : Cond.constantLong "java/lang/Long" 314 (6148914691236517205 : Int64) ∈ kx_all := kx_3 180 rfl rfl
theorem wx_661 : Cond.constantLong "java/lang/Long" 316 (3689348814741910323 : Int64) ∈ kx_all := kx_3 181 rfl rfl
theorem wx_662 : Cond.constantLong "java/lang/Long" 318 (1085102592571150095 : Int64) ∈ kx_all := kx_3 182 rfl rfl
set_option maxHeartbeats 4000000 in
set_option maxRecDepth 100000 in
theorem ct_Lo_bitCount (l : Launch) (D : va_G) (cI cZ : ClassId) (sz : Nat) (x : Nat) (hx33 : x < 2 ^ 33) : Met l yn_Lo_bitCount (Cond.code yn_Lo_bitCount prog_16_method_50_code 2 (some .int) :: kx_all) ({ frames := 0, cells := 0, slots := 0, locals := 0 } : Room) (kp [.long (lN x)] D cI cZ [] sz) (kr_q (some (.int (nI (pt_ct x 40 0))))) 0 0 (fun _ => False) := by
  refine kx_met (by decide) (Nat.le_of_ble_eq_true rfl) ?_
  intro p e s m below meth c ls hx hb hr hml hts hown hlocks hin hsz hP hK hD hN hl
  have hown : s.vm.findClass "java/lang/Long" = some m.cls := hown
  have hl : lv_has ls 2 [(0, .long (lN x))] := hl
  obtain ⟨h1, h2, h3, h4⟩ := bc_all hx33
  obtain ⟨a1, a2, a3, a4, a5⟩ := bits40 h4
  refine lv_lload_n hx hb dc_Lo_bitCount_0 rfl (lv_at hl 0 rfl) ?_
  refine lv_lload_n hx hb dc_Lo_bitCount_1 rfl (lv_at hl 0 rfl) ?_
  refine lv_iconst (v := nI 1) hx hb dc_Lo_bitCount_2 (by decide +kernel) ?_
  refine lv_lushr (v := lN (x / 2 ^ 1)) hx hb dc_Lo_bitCount_3 (ls_ushr (by omega) (by decide +kernel)) ?_
  refine kl_ldc2 (y := lN 6148914691236517205) hx hb hown (hts _ wx_660) dc_Lo_bitCount_4 (by decide +kernel) ?_
  refine kl_land hx hb dc_Lo_bitCount_7 ?_
  refine lv_lsub hx hb dc_Lo_bitCount_8 ?_
  refine kl_top (y := lN (pt_b1 x)) (ls_sub h1) ?_
  refine lv_lstore_n (lv' := [(0, .long (lN (pt_b1 x)))]) hx hb dc_Lo_bitCount_9 rfl hl (by decide) rfl (fun ls hl => ?_)
  refine lv_lload_n hx hb dc_Lo_bitCount_10 rfl (lv_at hl 0 rfl) ?_
  refine kl_ldc2 (y := lN 3689348814741910323) hx hb hown (hts _ wx_661) dc_Lo_bitCount_11 (by decide +kernel) ?_
  refine kl_land hx hb dc_Lo_bitCount_14 ?_
  refine lv_lload_n hx hb dc_Lo_bitCount_15 rfl (lv_at hl 0 rfl) ?_
  refine lv_iconst (v := nI 2) hx hb dc_Lo_bitCount_16 (by decide +kernel) ?_
  refine lv_lushr (v := lN (pt_b1 x / 2 ^ 2)) hx hb dc_Lo_bitCount_17 (ls_ushr (by omega) (by decide +kernel)) ?_
  refine kl_ldc2 (y := lN 3689348814741910323) hx hb hown (hts _ wx_661) dc_Lo_bitCount_18 (by decide +kernel) ?_
  refine kl_land hx hb dc_Lo_bitCount_21 ?_
  refine lv_ladd hx hb dc_Lo_bitCount_22 ?_
  refine kl_top (y := lN (pt_b2 (pt_b1 x))) (ls_add _ _) ?_
  refine lv_lstore_n (lv' := [(0, .long (lN (pt_b2 (pt_b1 x))))]) hx hb dc_Lo_bitCount_23 rfl hl (by decide) rfl (fun ls hl => ?_)
  refine lv_lload_n hx hb dc_Lo_bitCount_24 rfl (lv_at hl 0 rfl) ?_
  refine lv_lload_n hx hb dc_Lo_bitCount_25 rfl (lv_at hl 0 rfl) ?_
  refine lv_iconst (v := nI 4) hx hb dc_Lo_bitCount_26 (by decide +kernel) ?_
  refine lv_lushr (v := lN (pt_b2 (pt_b1 x) / 2 ^ 4)) hx hb dc_Lo_bitCount_27 (ls_ushr (by omega) (by decide +kernel)) ?_
  refine lv_ladd hx hb dc_Lo_bitCount_28 ?_
  refine kl_top (y := lN (pt_b2 (pt_b1 x) + pt_b2 (pt_b1 x) / 2 ^ 4)) (ls_add _ _) ?_
  refine kl_ldc2 (y := lN 1085102592571150095) hx hb hown (hts _ wx_662) dc_Lo_bitCount_29 (by decide +kernel) ?_
  refine kl_land hx hb dc_Lo_bitCount_32 ?_
  refine kl_top (y := lN (pt_b3 (pt_b2 (pt_b1 x)))) rfl ?_
  refine lv_lstore_n (lv' := [(0, .long (lN (pt_b3 (pt_b2 (pt_b1 x)))))]) hx hb dc_Lo_bitCount_33 rfl hl (by decide) rfl (fun ls hl => ?_)
  generalize pt_b3 (pt_b2 (pt_b1 x)) = i at h4 a1 a2 a3 a4 a5 hl ⊢
  refine lv_lload_n hx hb dc_Lo_bitCount_34 rfl (lv_at hl 0 rfl) ?_
  refine lv_lload_n hx hb dc_Lo_bitCount_35 rfl (lv_at hl 0 rfl) ?_
  refine lv_bipush (v := nI 8) hx hb dc_Lo_bitCount_36 (by decide +kernel) ?_
  refine lv_lushr (v := lN ((i) / 2 ^ 8)) hx hb dc_Lo_bitCount_38 (ls_ushr (by omega) (by decide +kernel)) ?_
  refine lv_ladd hx hb dc_Lo_bitCount_39 ?_
  refine kl_top (y := lN (i + i / 256)) (ls_add _ _) ?_
  refine lv_lstore_n (lv' := [(0, .long (lN (i + i / 256)))]) hx hb dc_Lo_bitCount_40 rfl hl (by decide) rfl (fun ls hl => ?_)
  refine lv_lload_n hx hb dc_Lo_bitCount_41 rfl (lv_at hl 0 rfl) ?_
  refine lv_lload_n hx hb dc_Lo_bitCount_42 rfl (lv_at hl 0 rfl) ?_
  refine lv_bipush (v := nI 16) hx hb dc_Lo_bitCount_43 (by decide +kernel) ?_
  refine lv_lushr (v := lN ((i + i / 256) / 2 ^ 16)) hx hb dc_Lo_bitCount_45 (ls_ushr (by omega) (by decide +kernel)) ?_
  refine lv_ladd hx hb dc_Lo_bitCount_46 ?_
  refine kl_top (y := lN (i + i / 256 + (i + i / 256) / 65536)) (ls_add _ _) ?_
  refine lv_lstore_n (lv' := [(0, .long (lN (i + i / 256 + (i + i / 256) / 65536)))]) hx hb dc_Lo_bitCount_47 rfl hl (by decide) rfl (fun ls hl => ?_)
  refine lv_lload_n hx hb dc_Lo_bitCount_48 rfl (lv_at hl 0 rfl) ?_
  refine lv_lload_n hx hb dc_Lo_bitCount_49 rfl (lv_at hl 0 rfl) ?_
  refine lv_bipush (v := nI 32) hx hb dc_Lo_bitCount_50 (by decide +kernel) ?_
  refine lv_lushr (v := lN ((i + i / 256 + (i + i / 256) / 65536) / 2 ^ 32)) hx hb dc_Lo_bitCount_52 (ls_ushr (by omega) (by decide +kernel)) ?_
  refine lv_ladd hx hb dc_Lo_bitCount_53 ?_
  refine kl_top (y := lN (i + i / 256 + (i + i / 256) / 65536 + (i + i / 256 + (i + i / 256) / 65536) / 4294967296)) (ls_add _ _) ?_
  refine lv_lstore_n (lv' := [(0, .long (lN (i + i / 256 + (i + i / 256) / 65536 + (i + i / 256 + (i + i / 256) / 65536) / 4294967296)))]) hx hb dc_Lo_bitCount_54 rfl hl (by decide) rfl (fun ls hl => ?_)
  generalize i + i / 256 + (i + i / 256) / 65536 + (i + i / 256 + (i + i / 256) / 65536) / 4294967296 = z at a4 a5 hl ⊢
  refine lv_lload_n hx hb dc_Lo_bitCount_55 rfl (lv_at hl 0 rfl) ?_
  refine lv_l2i (v := nI z) hx hb dc_Lo_bitCount_56 (lN_i _) ?_
  refine lv_bipush (v := nI 127) hx hb dc_Lo_bitCount_57 (by decide +kernel) ?_
  refine kn_iand hx hb dc_Lo_bitCount_59 ?_
  exact kr_iret hx hb hr hlocks dc_Lo_bitCount_60 (by rw [show z &&& 127 = z % 128 from Nat.and_two_pow_sub_one_eq_mod z 7, a5])
