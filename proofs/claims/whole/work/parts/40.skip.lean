/-! a word is looked at -/
/-- the word from a to b is the text wi -/
def pt_wm (t : Nat → Nat) (a b wi : Nat) : Bool := decide (b - a = ([1, 3, 1] : List Nat).getD wi 0 ∧ ∀ j, j < ([1, 3, 1] : List Nat).getD wi 0 → nI (t (a + j)) = (([[112], [99, 110, 102], [100]] : List (List Int32)).getD wi []).getD j 0)
theorem wl_3 {wi : Nat} (h : wi < 3) : ([1, 3, 1] : List Nat).getD wi 0 ≤ 3 := by
  have h3 : wi = 0 ∨ wi = 1 ∨ wi = 2 := by omega
  rcases h3 with h | h | h <;> subst h <;> decide
theorem wc_n {x y : Nat} (hx : x < 256) (hy : y < 256) : nI x = nI y ↔ x = y := nI_eq (by omega) (by omega)
theorem wm_0 {t : Nat → Nat} {a b : Nat} (ht : ∀ j, t j < 256) : pt_wm t a b 0 = pt_w1 t a b 112 := by
  unfold pt_wm pt_w1
  refine decide_eq_decide.mpr ⟨fun h => ⟨h.1, ?_⟩, fun h => ⟨h.1, fun j hj => ?_⟩⟩
  · exact (wc_n (ht _) (by decide)).mp (h.2 0 (by decide))
  · have hj1 : j < 1 := hj
    have hj0 : j = 0 := by omega
    subst hj0
    rw [Nat.add_zero, h.2]; decide
theorem wm_2 {t : Nat → Nat} {a b : Nat} (ht : ∀ j, t j < 256) : pt_wm t a b 2 = pt_w1 t a b 100 := by
  unfold pt_wm pt_w1
  refine decide_eq_decide.mpr ⟨fun h => ⟨h.1, ?_⟩, fun h => ⟨h.1, fun j hj => ?_⟩⟩
  · exact (wc_n (ht _) (by decide)).mp (h.2 0 (by decide))
  · have hj1 : j < 1 := hj
    have hj0 : j = 0 := by omega
    subst hj0
    rw [Nat.add_zero, h.2]; decide
theorem wm_1 {t : Nat → Nat} {a b : Nat} (ht : ∀ j, t j < 256) : pt_wm t a b 1 = pt_w3 t a b 99 110 102 := by
  unfold pt_wm pt_w3
  refine decide_eq_decide.mpr ⟨fun h => ⟨h.1, ?_, ?_, ?_⟩, fun h => ⟨h.1, fun j hj => ?_⟩⟩
  · exact (wc_n (ht _) (by decide)).mp (h.2 0 (by decide))
  · exact (wc_n (ht _) (by decide)).mp (h.2 1 (by decide))
  · exact (wc_n (ht _) (by decide)).mp (h.2 2 (by decide))
  · have hj1 : j < 3 := hj
    have hj0 : j = 0 ∨ j = 1 ∨ j = 2 := by omega
    obtain ⟨-, h1, h2, h3⟩ := h
    rcases hj0 with q | q | q <;> subst q
    · rw [Nat.add_zero, h1]; decide
    · rw [h2]; decide
    · rw [h3]; decide

theorem dc_Wd_skip_0 : decode bc_Wd_skip 0 = .ok (.aload_n 0, 1) := by decide +kernel
theorem dc_Wd_skip_1 : decode bc_Wd_skip 1 = .ok (.getfield 26, 3) := by decide +kernel
theorem dc_Wd_skip_4 : decode bc_Wd_skip 4 = .ok (.aload_n 0, 1) := by decide +kernel
theorem dc_Wd_skip_5 : decode bc_Wd_skip 5 = .ok (.getfield 19, 3) := by decide +kernel
theorem dc_Wd_skip_8 : decode bc_Wd_skip 8 = .ok (.isub, 1) := by decide +kernel
theorem dc_Wd_skip_9 : decode bc_Wd_skip 9 = .ok (.aload_n 1, 1) := by decide +kernel
theorem dc_Wd_skip_10 : decode bc_Wd_skip 10 = .ok (.invokevirtual 29, 3) := by decide +kernel
theorem dc_Wd_skip_13 : decode bc_Wd_skip 13 = .ok (.if_icmp .eq (5), 3) := by decide +kernel
theorem dc_Wd_skip_16 : decode bc_Wd_skip 16 = .ok (.iconst 0, 1) := by decide +kernel
theorem dc_Wd_skip_17 : decode bc_Wd_skip 17 = .ok (.ireturn, 1) := by decide +kernel
theorem dc_Wd_skip_18 : decode bc_Wd_skip 18 = .ok (.iconst 0, 1) := by decide +kernel
theorem dc_Wd_skip_19 : decode bc_Wd_skip 19 = .ok (.istore_n 2, 1) := by decide +kernel
theorem dc_Wd_skip_20 : decode bc_Wd_skip 20 = .ok (.iload_n 2, 1) := by decide +kernel
theorem dc_Wd_skip_21 : decode bc_Wd_skip 21 = .ok (.aload_n 1, 1) := by decide +kernel
theorem dc_Wd_skip_22 : decode bc_Wd_skip 22 = .ok (.invokevirtual 29, 3) := by decide +kernel
theorem dc_Wd_skip_25 : decode bc_Wd_skip 25 = .ok (.if_icmp .ge (32), 3) := by decide +kernel
theorem dc_Wd_skip_28 : decode bc_Wd_skip 28 = .ok (.aload_n 0, 1) := by decide +kernel
theorem dc_Wd_skip_29 : decode bc_Wd_skip 29 = .ok (.getfield 9, 3) := by decide +kernel
theorem dc_Wd_skip_32 : decode bc_Wd_skip 32 = .ok (.aload_n 0, 1) := by decide +kernel
theorem dc_Wd_skip_33 : decode bc_Wd_skip 33 = .ok (.getfield 19, 3) := by decide +kernel
theorem dc_Wd_skip_36 : decode bc_Wd_skip 36 = .ok (.iload_n 2, 1) := by decide +kernel
theorem dc_Wd_skip_37 : decode bc_Wd_skip 37 = .ok (.iadd, 1) := by decide +kernel
theorem dc_Wd_skip_38 : decode bc_Wd_skip 38 = .ok (.invokevirtual 35, 3) := by decide +kernel
theorem dc_Wd_skip_41 : decode bc_Wd_skip 41 = .ok (.aload_n 1, 1) := by decide +kernel
theorem dc_Wd_skip_42 : decode bc_Wd_skip 42 = .ok (.iload_n 2, 1) := by decide +kernel
theorem dc_Wd_skip_43 : decode bc_Wd_skip 43 = .ok (.invokevirtual 41, 3) := by decide +kernel
theorem dc_Wd_skip_46 : decode bc_Wd_skip 46 = .ok (.if_icmp .eq (5), 3) := by decide +kernel
theorem dc_Wd_skip_49 : decode bc_Wd_skip 49 = .ok (.iconst 0, 1) := by decide +kernel
theorem dc_Wd_skip_50 : decode bc_Wd_skip 50 = .ok (.ireturn, 1) := by decide +kernel
theorem dc_Wd_skip_51 : decode bc_Wd_skip 51 = .ok (.iinc 2 (1), 3) := by decide +kernel
theorem dc_Wd_skip_54 : decode bc_Wd_skip 54 = .ok (.goto (-34), 3) := by decide +kernel
theorem dc_Wd_skip_57 : decode bc_Wd_skip 57 = .ok (.aload_n 0, 1) := by decide +kernel
theorem dc_Wd_skip_58 : decode bc_Wd_skip 58 = .ok (.invokevirtual 45, 3) := by decide +kernel
theorem dc_Wd_skip_61 : decode bc_Wd_skip 61 = .ok (.iconst 1, 1) := by decide +kernel
theorem dc_Wd_skip_62 : decode bc_Wd_skip 62 = .ok (.ireturn, 1) := by decide +kernel
set_option maxHeartbeats 4000000 in
set_option maxRecDepth 100000 in
theorem ct_Wd_skip (l : Launch) (D : va_G) (cI cZ : ClassId) (sz : Nat) (X Y : Nat → Nat) (w : Nat) (o : Nat) (a : Nat) (N : Nat) (n : Nat) (t : Nat → Nat) (ga : Nat) (gb : Nat) (wi : Nat) (hN : N < 2 ^ 31) (hn : n ≤ N) (ht : ∀ j, t j < 256) (hse : ga ≤ gb) (hen : gb ≤ n) (hw : wi < 3) (hm : pt_wm t ga gb wi = true) : Met l yn_Wd_skip (Cond.code yn_Wd_skip bc_Wd_skip 3 (some .boolean) :: kx_all) ({ frames := 4, cells := 0, slots := 0, locals := 85 } : Room) (kq X Y [.ref w, .ref (X wi)] D cI cZ [wo_c w o ga gb, tx_c o a n, ar_n cI a N t] sz) (kw_q (some (.int (kb_i true))) D kc_l [wo_c w o (pt_ws t n gb) (pt_we t n (pt_ws t n gb)), tx_c o a n, ar_n cI a N t] (va_A [wo_c w o ga gb, tx_c o a n, ar_n cI a N t] sz)) 0 0 (va_A [wo_c w o ga gb, tx_c o a n, ar_n cI a N t] sz) := by
  refine kx_metQw (Qc := kw_q (some (.int (kb_i true))) D kc_l [wo_c w o (pt_ws t n gb) (pt_we t n (pt_ws t n gb)), tx_c o a n, ar_n cI a N t]) (by decide) (Nat.le_of_ble_eq_true rfl) ?_
  intro p e s m below meth c ls A hx hb hr hml hts hown hlocks hin hA hP hK hD hN hl hS hF
  have hown : s.vm.findClass rn_Wd = some m.cls := hown
  have hl : lv_has ls 3 [(0, .ref w), (1, .ref (X wi))] := hl
  have hL3 := wl_3 hw
  have hm2 := of_decide_eq_true hm
  refine lv_aload_n hx hb dc_Wd_skip_0 rfl (lv_at hl 0 rfl) ?_
  refine va_get (ci := 1) (v := .int (nI gb)) (C := rn_Wd) (T := fd_Wd) (N := 3) hx hb hts in_Wd hown hK hP 0 rfl rfl 2 (by decide) (hts _ wd_319) (fun _ h9 => h9) rfl dc_Wd_skip_1 ?_
  refine lv_aload_n hx hb dc_Wd_skip_4 rfl (lv_at hl 0 rfl) ?_
  refine va_get (ci := 1) (v := .int (nI ga)) (C := rn_Wd) (T := fd_Wd) (N := 3) hx hb hts in_Wd hown hK hP 0 rfl rfl 1 (by decide) (hts _ wd_318) (fun _ h9 => h9) rfl dc_Wd_skip_5 ?_
  refine kn_isub hx hb (by omega) dc_Wd_skip_8 ?_
  refine lv_aload_n hx hb dc_Wd_skip_9 rfl (lv_at hl 1 rfl) ?_
  refine kr_call1 (va_runV (As := []) (rest := [.int (nI (gb - ga))]) ⟨hx, hb, hml, hown, hts⟩ (ct_St_length l D cI cZ _ X Y wi (by omega)) (cwV 0 hts (kx_gV wd_340 wx_341 wx_342 wx_11 wx_343) rfl rfl rfl ⟨rfl, yd_St_length⟩ ⟨Nat.le_of_ble_eq_true rfl, Nat.le_of_ble_eq_true rfl⟩) (kq_T (i := wi) hP hD hK hN hF hS hA [] rfl rfl (by omega)) rfl rfl hl.1 rfl (lv_room (Nat.le_of_ble_eq_true rfl)) dc_Wd_skip_10 ⟨Nat.le_of_ble_eq_true rfl, Nat.le_of_ble_eq_true rfl⟩) ?_
  refine kn_icmp_eq hx hb (by omega) (by omega) dc_Wd_skip_13 rfl (fun hc13 => ?_) (fun hc13 => ?_)
  · refine lv_iconst (v := nI 0) hx hb dc_Wd_skip_18 (by decide +kernel) ?_
    refine lv_istore_n (lv' := [(2, .int (nI 0)), (0, .ref w), (1, .ref (X wi))]) hx hb dc_Wd_skip_19 rfl hl (by decide) rfl (fun ls hl => ?_)
    have lp_20 : ∀ (K : Nat) (k : Nat) (H : Heap) (locs : List Loc) (ls : Array Slot), ([1, 3, 1] : List Nat).getD wi 0 - k < K → va_P D kc_l [wo_c w o ga gb, tx_c o a n, ar_n cI a N t] H → va_D A [wo_c w o ga gb, tx_c o a n, ar_n cI a N t] → va_S A s.heap H locs → lv_has ls 3 [(2, .int (nI k)), (0, .ref w), (1, .ref (X wi))] → (k ≤ ([1, 3, 1] : List Nat).getD wi 0) → W p l e ({ frames := 4, cells := 0, slots := 0, locals := 85 } : Room) s m ([.ref w, .ref (X wi)] : List Value).toArray below meth c H locs 0 0 (MQ below (kw_q (some (.int (kb_i true))) D kc_l [wo_c w o (pt_ws t n gb) (pt_we t n (pt_ws t n gb)), tx_c o a n, ar_n cI a N t] A) ([.ref w, .ref (X wi)] : List Value).toArray s 0 0 A) (F0 m 20 ls []) := by
      intro K
      induction K with
      | zero =>
        intro k H locs ls hk
        exact absurd hk (Nat.not_lt_zero _)
      | succ K ih_20 =>
        intro k H locs ls hk hP hD hS hl h2
        refine lv_iload_n hx hb dc_Wd_skip_20 rfl (lv_at hl 0 rfl) ?_
        refine lv_aload_n hx hb dc_Wd_skip_21 rfl (lv_at hl 2 rfl) ?_
        refine kr_call1 (va_runV (As := []) (rest := [.int (nI k)]) ⟨hx, hb, hml, hown, hts⟩ (ct_St_length l D cI cZ _ X Y wi (by omega)) (cwV 0 hts (kx_gV wd_340 wx_341 wx_342 wx_11 wx_343) rfl rfl rfl ⟨rfl, yd_St_length⟩ ⟨Nat.le_of_ble_eq_true rfl, Nat.le_of_ble_eq_true rfl⟩) (kq_T (i := wi) hP hD hK hN hF hS hA [] rfl rfl (by omega)) rfl rfl hl.1 rfl (lv_room (Nat.le_of_ble_eq_true rfl)) dc_Wd_skip_22 ⟨Nat.le_of_ble_eq_true rfl, Nat.le_of_ble_eq_true rfl⟩) ?_
        refine kn_icmp_ge hx hb (by omega) (by omega) dc_Wd_skip_25 rfl (fun hc25 => ?_) (fun hc25 => ?_)
        · refine lv_aload_n hx hb dc_Wd_skip_57 rfl (lv_at hl 1 rfl) ?_
          refine kw_call0 (wr := []) (ws' := [wo_c w o (pt_ws t n gb) (pt_we t n (pt_ws t n gb)), tx_c o a n, ar_n cI a N t]) (va_runV (As := []) (rest := []) ⟨hx, hb, hml, hown, hts⟩ (ct_Wd_advance l D cI cZ _ w o a N n t ga gb (by omega) (by omega) (ht) (by omega)) (cwV 0 hts (kx_gV wd_388 wd_389 wd_390 wd_10 wd_391) rfl rfl rfl ⟨rfl, yd_Wd_advance⟩ ⟨Nat.le_of_ble_eq_true rfl, Nat.le_of_ble_eq_true rfl⟩) (kp_V (q0 := 0) (ci := 1) hP hD hK hN [0, 1, 2] rfl rfl rfl rfl rfl) rfl rfl hl.1 rfl (lv_room (Nat.le_of_ble_eq_true rfl)) dc_Wd_skip_58 ⟨Nat.le_of_ble_eq_true rfl, Nat.le_of_ble_eq_true rfl⟩) hP hD hS hA [0, 1, 2] [] [0, 1, 2] rfl rfl rfl (by decide) rfl rfl (fun H locs hP hD hS => ?_)
          refine lv_iconst (v := nI 1) hx hb dc_Wd_skip_61 (by decide +kernel) ?_
          refine kn_top (y := kb_i true) (by decide +kernel) ?_
          exact kw_zret hx hb hr hlocks hP hD hS dc_Wd_skip_62 (rfl) (rfl)
        · refine lv_aload_n hx hb dc_Wd_skip_28 rfl (lv_at hl 1 rfl) ?_
          refine va_get (ci := 1) (v := .ref o) (C := rn_Wd) (T := fd_Wd) (N := 3) hx hb hts in_Wd hown hK hP 0 rfl rfl 0 (by decide) (hts _ wd_317) (fun _ h9 => h9) rfl dc_Wd_skip_29 ?_
          refine lv_aload_n hx hb dc_Wd_skip_32 rfl (lv_at hl 1 rfl) ?_
          refine va_get (ci := 1) (v := .int (nI ga)) (C := rn_Wd) (T := fd_Wd) (N := 3) hx hb hts in_Wd hown hK hP 0 rfl rfl 1 (by decide) (hts _ wd_318) (fun _ h9 => h9) rfl dc_Wd_skip_33 ?_
          refine lv_iload_n hx hb dc_Wd_skip_36 rfl (lv_at hl 0 rfl) ?_
          refine kn_iadd hx hb dc_Wd_skip_37 ?_
          refine kr_call1 (va_runV (As := [.int (nI (ga + k))]) (rest := []) ⟨hx, hb, hml, hown, hts⟩ (ct_Tx_at l D cI cZ _ o a N n t (nI (ga + k)) (by omega) (by omega)) (cwV 1 hts (kx_gV wd_313 wd_293 wd_294 wd_2 wd_295) rfl rfl rfl ⟨rfl, yd_Tx_at⟩ ⟨Nat.le_of_ble_eq_true rfl, Nat.le_of_ble_eq_true rfl⟩) (kp_V (q0 := 1) (ci := 0) hP hD hK hN [1, 2] rfl rfl rfl rfl rfl) rfl rfl hl.1 rfl (lv_room (Nat.le_of_ble_eq_true rfl)) dc_Wd_skip_38 ⟨Nat.le_of_ble_eq_true rfl, Nat.le_of_ble_eq_true rfl⟩) ?_
          refine kn_top (y := nI (t (ga + k))) (pt_at_in (by omega) (by omega)) ?_
          refine lv_aload_n hx hb dc_Wd_skip_41 rfl (lv_at hl 2 rfl) ?_
          refine lv_iload_n hx hb dc_Wd_skip_42 rfl (lv_at hl 0 rfl) ?_
          refine kr_call1 (va_runV (As := [.int (nI k)]) (rest := [.int (nI (t (ga + k)))]) ⟨hx, hb, hml, hown, hts⟩ (ct_St_charAt l D cI cZ _ X Y wi k (by omega) (by omega)) (cwV 1 hts (kx_gV wd_350 wx_351 wx_352 wx_11 wx_353) rfl rfl rfl ⟨rfl, yd_St_charAt⟩ ⟨Nat.le_of_ble_eq_true rfl, Nat.le_of_ble_eq_true rfl⟩) (kq_T (i := wi) hP hD hK hN hF hS hA [] rfl rfl (by omega)) rfl rfl hl.1 rfl (lv_room (Nat.le_of_ble_eq_true rfl)) dc_Wd_skip_43 ⟨Nat.le_of_ble_eq_true rfl, Nat.le_of_ble_eq_true rfl⟩) ?_
          refine lv_icmp_eq hx hb dc_Wd_skip_46 rfl (fun hc46 => ?_) (fun hc46 => ?_)
          · refine lv_iinc (k := 0) (v := nI (k + 1)) (lv' := [(2, .int (nI (k + 1))), (0, .ref w), (1, .ref (X wi))]) hx hb dc_Wd_skip_51 hl rfl (nI_1 _) (by decide) rfl (fun ls hl => ?_)
            refine lv_goto hx hb dc_Wd_skip_54 rfl ?_
            exact ih_20 _ _ _ _ (by omega) hP hD hS hl (by omega)
          · exact absurd (hm2.2 k (by omega)) hc46
    exact lp_20 _ 0 _ _ _ (Nat.lt_succ_self _) hP hD hS hl (Nat.zero_le _)
  · exact absurd hm2.1 hc13

set_option maxHeartbeats 4000000 in
set_option maxRecDepth 100000 in
theorem ct_Wd_skip_no (l : Launch) (D : va_G) (cI cZ : ClassId) (sz : Nat) (X Y : Nat → Nat) (w : Nat) (o : Nat) (a : Nat) (N : Nat) (n : Nat) (t : Nat → Nat) (ga : Nat) (gb : Nat) (wi : Nat) (hN : N < 2 ^ 31) (hn : n ≤ N) (ht : ∀ j, t j < 256) (hse : ga ≤ gb) (hen : gb ≤ n) (hw : wi < 3) (hm : pt_wm t ga gb wi = false) : Met l yn_Wd_skip (Cond.code yn_Wd_skip bc_Wd_skip 3 (some .boolean) :: kx_all) ({ frames := 4, cells := 0, slots := 0, locals := 85 } : Room) (kq X Y [.ref w, .ref (X wi)] D cI cZ [wo_c w o ga gb, tx_c o a n, ar_n cI a N t] sz) (kw_q (some (.int (kb_i false))) D kc_l [wo_c w o ga gb, tx_c o a n, ar_n cI a N t] (va_A [wo_c w o ga gb, tx_c o a n, ar_n cI a N t] sz)) 0 0 (va_A [wo_c w o ga gb, tx_c o a n, ar_n cI a N t] sz) := by
  refine kx_metQw (Qc := kw_q (some (.int (kb_i false))) D kc_l [wo_c w o ga gb, tx_c o a n, ar_n cI a N t]) (by decide) (Nat.le_of_ble_eq_true rfl) ?_
  intro p e s m below meth c ls A hx hb hr hml hts hown hlocks hin hA hP hK hD hN hl hS hF
  have hown : s.vm.findClass rn_Wd = some m.cls := hown
  have hl : lv_has ls 3 [(0, .ref w), (1, .ref (X wi))] := hl
  have hL3 := wl_3 hw
  have hm2 := of_decide_eq_false hm
  refine lv_aload_n hx hb dc_Wd_skip_0 rfl (lv_at hl 0 rfl) ?_
  refine va_get (ci := 1) (v := .int (nI gb)) (C := rn_Wd) (T := fd_Wd) (N := 3) hx hb hts in_Wd hown hK hP 0 rfl rfl 2 (by decide) (hts _ wd_319) (fun _ h9 => h9) rfl dc_Wd_skip_1 ?_
  refine lv_aload_n hx hb dc_Wd_skip_4 rfl (lv_at hl 0 rfl) ?_
  refine va_get (ci := 1) (v := .int (nI ga)) (C := rn_Wd) (T := fd_Wd) (N := 3) hx hb hts in_Wd hown hK hP 0 rfl rfl 1 (by decide) (hts _ wd_318) (fun _ h9 => h9) rfl dc_Wd_skip_5 ?_
  refine kn_isub hx hb (by omega) dc_Wd_skip_8 ?_
  refine lv_aload_n hx hb dc_Wd_skip_9 rfl (lv_at hl 1 rfl) ?_
  refine kr_call1 (va_runV (As := []) (rest := [.int (nI (gb - ga))]) ⟨hx, hb, hml, hown, hts⟩ (ct_St_length l D cI cZ _ X Y wi (by omega)) (cwV 0 hts (kx_gV wd_340 wx_341 wx_342 wx_11 wx_343) rfl rfl rfl ⟨rfl, yd_St_length⟩ ⟨Nat.le_of_ble_eq_true rfl, Nat.le_of_ble_eq_true rfl⟩) (kq_T (i := wi) hP hD hK hN hF hS hA [] rfl rfl (by omega)) rfl rfl hl.1 rfl (lv_room (Nat.le_of_ble_eq_true rfl)) dc_Wd_skip_10 ⟨Nat.le_of_ble_eq_true rfl, Nat.le_of_ble_eq_true rfl⟩) ?_
  refine kn_icmp_eq hx hb (by omega) (by omega) dc_Wd_skip_13 rfl (fun hc13 => ?_) (fun hc13 => ?_)
  · refine lv_iconst (v := nI 0) hx hb dc_Wd_skip_18 (by decide +kernel) ?_
    refine lv_istore_n (lv' := [(2, .int (nI 0)), (0, .ref w), (1, .ref (X wi))]) hx hb dc_Wd_skip_19 rfl hl (by decide) rfl (fun ls hl => ?_)
    have lp_20 : ∀ (K : Nat) (k : Nat) (H : Heap) (locs : List Loc) (ls : Array Slot), ([1, 3, 1] : List Nat).getD wi 0 - k < K → va_P D kc_l [wo_c w o ga gb, tx_c o a n, ar_n cI a N t] H → va_D A [wo_c w o ga gb, tx_c o a n, ar_n cI a N t] → va_S A s.heap H locs → lv_has ls 3 [(2, .int (nI k)), (0, .ref w), (1, .ref (X wi))] → (k ≤ ([1, 3, 1] : List Nat).getD wi 0) → (∀ j, j < k → nI (t (ga + j)) = (([[112], [99, 110, 102], [100]] : List (List Int32)).getD wi []).getD j 0) → W p l e ({ frames := 4, cells := 0, slots := 0, locals := 85 } : Room) s m ([.ref w, .ref (X wi)] : List Value).toArray below meth c H locs 0 0 (MQ below (kw_q (some (.int (kb_i false))) D kc_l [wo_c w o ga gb, tx_c o a n, ar_n cI a N t] A) ([.ref w, .ref (X wi)] : List Value).toArray s 0 0 A) (F0 m 20 ls []) := by
      intro K
      induction K with
      | zero =>
        intro k H locs ls hk
        exact absurd hk (Nat.not_lt_zero _)
      | succ K ih_20 =>
        intro k H locs ls hk hP hD hS hl h2 h3
        refine lv_iload_n hx hb dc_Wd_skip_20 rfl (lv_at hl 0 rfl) ?_
        refine lv_aload_n hx hb dc_Wd_skip_21 rfl (lv_at hl 2 rfl) ?_
        refine kr_call1 (va_runV (As := []) (rest := [.int (nI k)]) ⟨hx, hb, hml, hown, hts⟩ (ct_St_length l D cI cZ _ X Y wi (by omega)) (cwV 0 hts (kx_gV wd_340 wx_341 wx_342 wx_11 wx_343) rfl rfl rfl ⟨rfl, yd_St_length⟩ ⟨Nat.le_of_ble_eq_true rfl, Nat.le_of_ble_eq_true rfl⟩) (kq_T (i := wi) hP hD hK hN hF hS hA [] rfl rfl (by omega)) rfl rfl hl.1 rfl (lv_room (Nat.le_of_ble_eq_true rfl)) dc_Wd_skip_22 ⟨Nat.le_of_ble_eq_true rfl, Nat.le_of_ble_eq_true rfl⟩) ?_
        refine kn_icmp_ge hx hb (by omega) (by omega) dc_Wd_skip_25 rfl (fun hc25 => ?_) (fun hc25 => ?_)
        · exact absurd ⟨hc13, fun j hj => h3 j (by omega)⟩ hm2
        · refine lv_aload_n hx hb dc_Wd_skip_28 rfl (lv_at hl 1 rfl) ?_
          refine va_get (ci := 1) (v := .ref o) (C := rn_Wd) (T := fd_Wd) (N := 3) hx hb hts in_Wd hown hK hP 0 rfl rfl 0 (by decide) (hts _ wd_317) (fun _ h9 => h9) rfl dc_Wd_skip_29 ?_
          refine lv_aload_n hx hb dc_Wd_skip_32 rfl (lv_at hl 1 rfl) ?_
          refine va_get (ci := 1) (v := .int (nI ga)) (C := rn_Wd) (T := fd_Wd) (N := 3) hx hb hts in_Wd hown hK hP 0 rfl rfl 1 (by decide) (hts _ wd_318) (fun _ h9 => h9) rfl dc_Wd_skip_33 ?_
          refine lv_iload_n hx hb dc_Wd_skip_36 rfl (lv_at hl 0 rfl) ?_
          refine kn_iadd hx hb dc_Wd_skip_37 ?_
          refine kr_call1 (va_runV (As := [.int (nI (ga + k))]) (rest := []) ⟨hx, hb, hml, hown, hts⟩ (ct_Tx_at l D cI cZ _ o a N n t (nI (ga + k)) (by omega) (by omega)) (cwV 1 hts (kx_gV wd_313 wd_293 wd_294 wd_2 wd_295) rfl rfl rfl ⟨rfl, yd_Tx_at⟩ ⟨Nat.le_of_ble_eq_true rfl, Nat.le_of_ble_eq_true rfl⟩) (kp_V (q0 := 1) (ci := 0) hP hD hK hN [1, 2] rfl rfl rfl rfl rfl) rfl rfl hl.1 rfl (lv_room (Nat.le_of_ble_eq_true rfl)) dc_Wd_skip_38 ⟨Nat.le_of_ble_eq_true rfl, Nat.le_of_ble_eq_true rfl⟩) ?_
          refine kn_top (y := nI (t (ga + k))) (pt_at_in (by omega) (by omega)) ?_
          refine lv_aload_n hx hb dc_Wd_skip_41 rfl (lv_at hl 2 rfl) ?_
          refine lv_iload_n hx hb dc_Wd_skip_42 rfl (lv_at hl 0 rfl) ?_
          refine kr_call1 (va_runV (As := [.int (nI k)]) (rest := [.int (nI (t (ga + k)))]) ⟨hx, hb, hml, hown, hts⟩ (ct_St_charAt l D cI cZ _ X Y wi k (by omega) (by omega)) (cwV 1 hts (kx_gV wd_350 wx_351 wx_352 wx_11 wx_353) rfl rfl rfl ⟨rfl, yd_St_charAt⟩ ⟨Nat.le_of_ble_eq_true rfl, Nat.le_of_ble_eq_true rfl⟩) (kq_T (i := wi) hP hD hK hN hF hS hA [] rfl rfl (by omega)) rfl rfl hl.1 rfl (lv_room (Nat.le_of_ble_eq_true rfl)) dc_Wd_skip_43 ⟨Nat.le_of_ble_eq_true rfl, Nat.le_of_ble_eq_true rfl⟩) ?_
          refine lv_icmp_eq hx hb dc_Wd_skip_46 rfl (fun hc46 => ?_) (fun hc46 => ?_)
          · refine lv_iinc (k := 0) (v := nI (k + 1)) (lv' := [(2, .int (nI (k + 1))), (0, .ref w), (1, .ref (X wi))]) hx hb dc_Wd_skip_51 hl rfl (nI_1 _) (by decide) rfl (fun ls hl => ?_)
            refine lv_goto hx hb dc_Wd_skip_54 rfl ?_
            exact ih_20 _ _ _ _ (by omega) hP hD hS hl (by omega) (fun j hj => by
                by_cases hjk : j = k
                · subst hjk; exact hc46
                · exact h3 j (by omega))
          · refine lv_iconst (v := nI 0) hx hb dc_Wd_skip_49 (by decide +kernel) ?_
            refine kn_top (y := kb_i false) (by decide +kernel) ?_
            exact kw_zret hx hb hr hlocks hP hD hS dc_Wd_skip_50 (rfl) (rfl)
    exact lp_20 _ 0 _ _ _ (Nat.lt_succ_self _) hP hD hS hl (Nat.zero_le _) (fun j hj => by omega)
  · refine lv_iconst (v := nI 0) hx hb dc_Wd_skip_16 (by decide +kernel) ?_
    refine kn_top (y := kb_i false) (by decide +kernel) ?_
    exact kw_zret hx hb hr hlocks hP hD hS dc_Wd_skip_17 (rfl) (rfl)
