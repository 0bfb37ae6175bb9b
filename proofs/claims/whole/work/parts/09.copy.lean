/-! copying a clause; numbers that go down to -1 -/
def pt_dn (k : Nat) : Int32 := nI k - nI 1
theorem pt_dn_s (k : Nat) : pt_dn (k + 1) = nI k := nI_pred k
theorem pt_dn_0 : pt_dn 0 < 0 := by decide +kernel
theorem pt_dn_p {k : Nat} (h : k < 2 ^ 31) : pt_dn k < 0 ↔ k = 0 := by
  constructor
  · intro h1
    cases k with
    | zero => rfl
    | succ j => rw [pt_dn_s] at h1; exact absurd h1 (nI_pos (by omega))
  · intro h1; subst h1; exact pt_dn_0
theorem pt_dn_i (k : Nat) : nI k + Int32.ofInt (-1) = pt_dn k := by
  unfold pt_dn
  rw [Int32.sub_eq_add_neg]
  rfl
theorem cy_0 {f g : Nat → Int32} {a b : Nat} : va_cpy f g a b 0 = g := by
  funext i
  unfold va_cpy
  rw [if_neg (by omega)]
theorem cy_s {f g : Nat → Int32} {a b k : Nat} {x : Int32} (h : f (a + k) = x) : upd (va_cpy f g a b k) (b + k) x = va_cpy f g a b (k + 1) := by
  funext i
  unfold upd va_cpy
  by_cases h1 : i = b + k
  · subst h1
    rw [if_pos rfl, if_pos (by omega), show b + k - b = k by omega, h]
  · rw [if_neg h1]
    by_cases h2 : b ≤ i ∧ i < b + k
    · rw [if_pos h2, if_pos (by omega)]
    · rw [if_neg h2, if_neg (by omega)]
/-- a row of literals, its bits and the set that they make: each fits in behind those before -/
def pt_row (gl : Nat → Int32) (a w : Nat) (bb pm : Nat → Nat) (z : Nat) : Prop :=
  w ≤ 8 ∧ pm 0 = 0 ∧ pm w = z ∧ ∀ k, k < w → bb k < 16 ∧ gl (a + k) = pt_lit (bb k) ∧ pm k &&& (2 ^ (bb k % 8) ||| 2 ^ (bb k % 8 + 8)) = 0 ∧ pm (k + 1) = pm k ||| 2 ^ bb k ∧ pm k < 65536

set_option maxHeartbeats 4000000 in
set_option maxRecDepth 100000 in
theorem ct_Cl_copy (l : Launch) (D : va_G) (cI cZ : ClassId) (sz : Nat) (o : Nat) (qa : Nat) (qb : Nat) (qd : Nat) (N : Nat) (n : Nat) (fz : Nat → Nat) (fs : Nat → Nat) (fl : Nat → Int32) (o2 : Nat) (ra : Nat) (rb : Nat) (rd : Nat) (M : Nat) (k0 : Nat) (gz : Nat → Nat) (gs : Nat → Nat) (gl : Nat → Int32) (j : Nat) (bb : Nat → Nat) (pm : Nat → Nat) (hNb : N < 2 ^ 20) (hnN : n + 1 < N) (hM : M < 2 ^ 20) (hk0 : k0 < M) (hj1 : 1 ≤ j) (hj2 : j ≤ k0) (hz : ∀ i, 1 ≤ i → i ≤ k0 → gz i ≤ 8) (hrow : pt_row gl (j * 8) (gz j) bb pm (gs j)) : Met l yn_Cl_copy (Cond.code yn_Cl_copy bc_Cl_copy 4 none :: kx_all) ({ frames := 2, cells := 0, slots := 0, locals := 43 } : Room) (kp [.ref o, .ref o2, .int (nI j)] D cI cZ [cl_c o qa qb qd n, ar_n cI qa N fz, ar_n cI qb N fs, ar_i cI qd (N * 8) fl, cl_c o2 ra rb rd k0, ar_n cI ra M gz, ar_n cI rb M gs, ar_i cI rd (M * 8) gl] sz) (kw_q none D kc_l [cl_c o qa qb qd (n + 1), ar_n cI qa N (va_up fz (n + 1) (gz j)), ar_n cI qb N (va_up fs (n + 1) (gs j)), ar_i cI qd (N * 8) (va_cpy gl fl (j * 8) ((n + 1) * 8) (gz j)), cl_c o2 ra rb rd k0, ar_n cI ra M gz, ar_n cI rb M gs, ar_i cI rd (M * 8) gl] (va_A [cl_c o qa qb qd n, ar_n cI qa N fz, ar_n cI qb N fs, ar_i cI qd (N * 8) fl, cl_c o2 ra rb rd k0, ar_n cI ra M gz, ar_n cI rb M gs, ar_i cI rd (M * 8) gl] sz)) 0 0 (va_A [cl_c o qa qb qd n, ar_n cI qa N fz, ar_n cI qb N fs, ar_i cI qd (N * 8) fl, cl_c o2 ra rb rd k0, ar_n cI ra M gz, ar_n cI rb M gs, ar_i cI rd (M * 8) gl] sz) := by
  refine kx_metW (by decide) (Nat.le_of_ble_eq_true rfl) ?_
  intro p e s m below meth c ls A hx hb hr hml hts hown hlocks hin hA hP hK hD hN hl hS
  have hown : s.vm.findClass rn_Cl = some m.cls := hown
  have hl : lv_has ls 4 [(0, .ref o), (1, .ref o2), (2, .int (nI j))] := hl
  obtain ⟨h8, hpm0, hpe, hlit⟩ := hrow
  refine lv_aload_n hx hb dc_Cl_copy_0 rfl (lv_at hl 1 rfl) ?_
  refine lv_iload_n hx hb dc_Cl_copy_1 rfl (lv_at hl 2 rfl) ?_
  refine kr_call1 (va_runV (As := [.int (nI j)]) (rest := []) ⟨hx, hb, hml, hown, hts⟩ (ct_Cl_has l D cI cZ _ o2 ra rb rd k0 j (by omega) (by omega)) (cwV 1 hts (kx_gV wd_251 wd_240 wd_241 wd_4 wd_242) rfl rfl rfl ⟨rfl, yd_Cl_has⟩ ⟨Nat.le_of_ble_eq_true rfl, Nat.le_of_ble_eq_true rfl⟩) (kp_V (q0 := 4) (ci := 2) hP hD hK hN [4] rfl rfl rfl rfl rfl) rfl rfl hl.1 rfl (lv_room (Nat.le_of_ble_eq_true rfl)) dc_Cl_copy_2 ⟨Nat.le_of_ble_eq_true rfl, Nat.le_of_ble_eq_true rfl⟩) ?_
  refine kb_if_eq hx hb dc_Cl_copy_5 rfl (fun hc5 => ?_) (fun hc5 => ?_)
  · exact absurd hc5 (by rw [decide_eq_true ⟨hj1, hj2⟩]; decide)
  · refine lv_aload_n hx hb dc_Cl_copy_8 rfl (lv_at hl 0 rfl) ?_
    refine kw_call1 (wr := [cl_c o2 ra rb rd k0, ar_n cI ra M gz, ar_n cI rb M gs, ar_i cI rd (M * 8) gl]) (ws' := [cl_c o qa qb qd (n + 1), ar_n cI qa N (va_up fz (n + 1) 0), ar_n cI qb N (va_up fs (n + 1) 0), ar_i cI qd (N * 8) fl, cl_c o2 ra rb rd k0, ar_n cI ra M gz, ar_n cI rb M gs, ar_i cI rd (M * 8) gl]) (va_runV (As := []) (rest := []) ⟨hx, hb, hml, hown, hts⟩ (ct_Cl_begin l D cI cZ _ o qa qb qd N n fz fs fl (by omega) (by omega)) (cwV 0 hts (kx_gV wd_493 wd_403 wd_404 wd_4 wd_405) rfl rfl rfl ⟨rfl, yd_Cl_begin⟩ ⟨Nat.le_of_ble_eq_true rfl, Nat.le_of_ble_eq_true rfl⟩) (kp_V (q0 := 0) (ci := 2) hP hD hK hN [0, 1, 2, 3] rfl rfl rfl rfl rfl) rfl rfl hl.1 rfl (lv_room (Nat.le_of_ble_eq_true rfl)) dc_Cl_copy_9 ⟨Nat.le_of_ble_eq_true rfl, Nat.le_of_ble_eq_true rfl⟩) hP hD hS hA [0, 1, 2, 3] [4, 5, 6, 7] [4, 5, 6, 7, 0, 1, 2, 3] rfl rfl rfl (by decide) rfl rfl (fun H locs hP hD hS => ?_)
    refine kb_if_ne hx hb dc_Cl_copy_12 rfl (fun hc12 => ?_) (fun hc12 => ?_)
    · refine lv_iconst (v := nI 0) hx hb dc_Cl_copy_16 (by decide +kernel) ?_
      refine lv_istore_n (lv' := [(3, .int (nI 0)), (0, .ref o), (1, .ref o2), (2, .int (nI j))]) hx hb dc_Cl_copy_17 rfl hl (by decide) rfl (fun ls hl => ?_)
      have lp_18 : ∀ (K : Nat) (k : Nat) (zk : Nat → Nat) (sk : Nat → Nat) (lk : Nat → Int32) (H : Heap) (locs : List Loc) (ls : Array Slot), gz j - k < K → va_P D kc_l [cl_c o qa qb qd (n + 1), ar_n cI qa N zk, ar_n cI qb N sk, ar_i cI qd (N * 8) lk, cl_c o2 ra rb rd k0, ar_n cI ra M gz, ar_n cI rb M gs, ar_i cI rd (M * 8) gl] H → va_D A [cl_c o qa qb qd (n + 1), ar_n cI qa N zk, ar_n cI qb N sk, ar_i cI qd (N * 8) lk, cl_c o2 ra rb rd k0, ar_n cI ra M gz, ar_n cI rb M gs, ar_i cI rd (M * 8) gl] → va_S A s.heap H locs → lv_has ls 4 [(3, .int (nI k)), (0, .ref o), (1, .ref o2), (2, .int (nI j))] → (zk = va_up fz (n + 1) k) → (sk = va_up fs (n + 1) (pm k)) → (lk = va_cpy gl fl (j * 8) ((n + 1) * 8) k) → (k ≤ gz j) → W p l e ({ frames := 2, cells := 0, slots := 0, locals := 43 } : Room) s m ([.ref o, .ref o2, .int (nI j)] : List Value).toArray below meth c H locs 0 0 (MQ below (kw_q none D kc_l [cl_c o qa qb qd (n + 1), ar_n cI qa N (va_up fz (n + 1) (gz j)), ar_n cI qb N (va_up fs (n + 1) (gs j)), ar_i cI qd (N * 8) (va_cpy gl fl (j * 8) ((n + 1) * 8) (gz j)), cl_c o2 ra rb rd k0, ar_n cI ra M gz, ar_n cI rb M gs, ar_i cI rd (M * 8) gl] A) ([.ref o, .ref o2, .int (nI j)] : List Value).toArray s 0 0 A) (F0 m 18 ls []) := by
        intro K
        induction K with
        | zero =>
          intro k zk sk lk H locs ls hk
          exact absurd hk (Nat.not_lt_zero _)
        | succ K ih =>
          intro k zk sk lk H locs ls hk hP hD hS hl hzk hsk hlk hk2
          refine lv_iload_n hx hb dc_Cl_copy_18 rfl (lv_at hl 0 rfl) ?_
          refine lv_aload_n hx hb dc_Cl_copy_19 rfl (lv_at hl 2 rfl) ?_
          refine va_get (ci := 2) (v := .ref ra) (C := rn_Cl) (T := fd_Cl) (N := 4) hx hb hts in_Cl hown hK hP 4 rfl rfl 0 (by decide) (hts _ wd_63) (fun _ h9 => h9) rfl dc_Cl_copy_20 ?_
          refine lv_iload_n hx hb dc_Cl_copy_23 rfl (lv_at hl 3 rfl) ?_
          refine ka_nald (t := gz) hx hb hK hP 5 0 rfl rfl (j := j) (by omega) (by omega) dc_Cl_copy_24 ?_
          refine kn_icmp_ge hx hb (by omega) (by omega) dc_Cl_copy_25 rfl (fun hc25 => ?_) (fun hc25 => ?_)
          · exact kw_vret hx hb hr hlocks hP hD hS dc_Cl_copy_45 (by rw [hzk, hsk, hlk, show k = gz j by omega, hpe])
          · refine lv_aload_n hx hb dc_Cl_copy_28 rfl (lv_at hl 1 rfl) ?_
            refine lv_aload_n hx hb dc_Cl_copy_29 rfl (lv_at hl 2 rfl) ?_
            refine lv_iload_n hx hb dc_Cl_copy_30 rfl (lv_at hl 3 rfl) ?_
            refine lv_iload_n hx hb dc_Cl_copy_31 rfl (lv_at hl 0 rfl) ?_
            refine kr_call1 (va_runV (As := [.int (nI j), .int (nI k)]) (rest := [.ref o]) ⟨hx, hb, hml, hown, hts⟩ (ct_Cl_literalAt l D cI cZ _ o2 ra rb rd M k0 gz gs gl j k (by omega) (by omega) (hz) (by omega) (by omega)) (cwV 2 hts (kx_gV wd_494 wd_248 wd_249 wd_4 wd_250) rfl rfl rfl ⟨rfl, yd_Cl_literalAt⟩ ⟨Nat.le_of_ble_eq_true rfl, Nat.le_of_ble_eq_true rfl⟩) (kp_V (q0 := 4) (ci := 2) hP hD hK hN [4, 5, 6, 7] rfl rfl rfl rfl rfl) rfl rfl hl.1 rfl (lv_room (Nat.le_of_ble_eq_true rfl)) dc_Cl_copy_32 ⟨Nat.le_of_ble_eq_true rfl, Nat.le_of_ble_eq_true rfl⟩) ?_
            refine kn_top (y := pt_lit (bb k)) ((if_pos ⟨⟨hj1, hj2⟩, by omega⟩).trans (hlit k (by omega)).2.1) ?_
            refine kw_call1 (wr := [cl_c o2 ra rb rd k0, ar_n cI ra M gz, ar_n cI rb M gs, ar_i cI rd (M * 8) gl]) (ws' := [cl_c o qa qb qd (n + 1), ar_n cI qa N (va_up zk (n + 1) (zk (n + 1) + 1)), ar_n cI qb N (va_up sk (n + 1) (sk (n + 1) ||| 2 ^ (bb k))), ar_i cI qd (N * 8) (upd lk ((n + 1) * 8 + zk (n + 1)) (pt_lit (bb k))), cl_c o2 ra rb rd k0, ar_n cI ra M gz, ar_n cI rb M gs, ar_i cI rd (M * 8) gl]) (va_runV (As := [.int (pt_lit (bb k))]) (rest := []) ⟨hx, hb, hml, hown, hts⟩ (ct_Cl_append l D cI cZ _ o qa qb qd N (n + 1) zk sk lk (bb k) (by omega) (by omega) ((hlit k (by omega)).1) (by omega) (by rw [hsk, va_up_self]; exact (hlit k (by omega)).2.2.2.2) (by rw [hsk, va_up_self]; exact (hlit k (by omega)).2.2.1) (by rw [hzk, va_up_self]; omega)) (cwV 1 hts (kx_gV wd_495 wd_410 wd_411 wd_4 wd_412) rfl rfl rfl ⟨rfl, yd_Cl_append⟩ ⟨Nat.le_of_ble_eq_true rfl, Nat.le_of_ble_eq_true rfl⟩) (kp_V (q0 := 0) (ci := 2) hP hD hK hN [0, 1, 2, 3] rfl rfl rfl rfl rfl) rfl rfl hl.1 rfl (lv_room (Nat.le_of_ble_eq_true rfl)) dc_Cl_copy_35 ⟨Nat.le_of_ble_eq_true rfl, Nat.le_of_ble_eq_true rfl⟩) hP hD hS hA [0, 1, 2, 3] [4, 5, 6, 7] [4, 5, 6, 7, 0, 1, 2, 3] rfl rfl rfl (by decide) rfl rfl (fun H locs hP hD hS => ?_)
            refine lv_pop hx hb dc_Cl_copy_38 rfl ?_
            refine lv_iinc (k := 0) (v := nI (k + 1)) (lv' := [(3, .int (nI (k + 1))), (0, .ref o), (1, .ref o2), (2, .int (nI j))]) hx hb dc_Cl_copy_39 hl rfl (nI_1 _) (by decide) rfl (fun ls hl => ?_)
            refine lv_goto hx hb dc_Cl_copy_42 rfl ?_
            exact ih _ _ _ _ _ _ _ (by omega) hP hD hS hl (by rw [hzk, va_up_self, bx_uu]) (by rw [hsk, va_up_self, bx_uu, (hlit k (by omega)).2.2.2.1]) (by rw [hzk, va_up_self, hlk]; exact cy_s (hlit k (by omega)).2.1) (by omega)
      exact lp_18 _ _ _ _ _ _ _ _ (Nat.lt_succ_self _) hP hD hS hl (rfl) (by rw [hpm0]) (cy_0.symm) (by omega)
    · exact absurd hc12 (by decide)
