/-! the other way: by the hints alone -/
abbrev pt_V : Type := Bool × Nat × Bool × Nat × Nat × Nat × (Nat → Nat) × (Nat → Nat)
/-- the positive hints are followed: in order or not; the next one, whether a conflict came, the assignment -/
def pt_fp (fs : Nat → Nat) (lv cn : Nat) (hv : Nat → Int32) : Nat → Nat → Bool → Nat → Nat → Nat → (Nat → Nat) → (Nat → Nat) → pt_V
  | 0, nx, cf, n, t, f, rs, im => (true, nx, cf, n, t, f, rs, im)
  | k + 1, nx, cf, n, t, f, rs, im =>
    if hv nx ≤ 0 then (true, nx, cf, n, t, f, rs, im)
    else if cf = true ∨ ¬ (hv nx).toNatClampNeg ≤ cn ∨ lv.testBit (hv nx).toNatClampNeg = false ∨ pt_rdy (fs (hv nx).toNatClampNeg) t f = false then (false, nx, cf, n, t, f, rs, im)
    else if nb_d (fs (hv nx).toNatClampNeg) f = 0 then pt_fp fs lv cn hv k (nx + 1) true n t f rs im
    else pt_fp fs lv cn hv k (nx + 1) false (n + 1) (t ||| nb_d (fs (hv nx).toNatClampNeg) f) (f ||| nb_op (nb_d (fs (hv nx).toNatClampNeg) f)) (va_up rs n (hv nx).toNatClampNeg) (va_up im n (nb_d (fs (hv nx).toNatClampNeg) f))
theorem fp_neg {fs : Nat → Nat} {lv cn hc : Nat} {hv : Nat → Int32} {nx : Nat} {cf : Bool} {n t f : Nat} {rs im : Nat → Nat} (hx : nx < hc) (h : hv nx ≤ 0) : pt_fp fs lv cn hv (hc - nx) nx cf n t f rs im = (true, nx, cf, n, t, f, rs, im) := by
  rw [show hc - nx = (hc - (nx + 1)) + 1 by omega, pt_fp, if_pos h]
theorem fp_bad {fs : Nat → Nat} {lv cn hc : Nat} {hv : Nat → Int32} {nx : Nat} {cf : Bool} {n t f h : Nat} {rs im : Nat → Nat} (hx : nx < hc) (h0 : ¬ hv nx ≤ 0) (hh : (hv nx).toNatClampNeg = h) (hb : cf = true ∨ ¬ h ≤ cn ∨ lv.testBit h = false ∨ pt_rdy (fs h) t f = false) : pt_fp fs lv cn hv (hc - nx) nx cf n t f rs im = (false, nx, cf, n, t, f, rs, im) := by
  rw [show hc - nx = (hc - (nx + 1)) + 1 by omega, pt_fp, if_neg h0, hh, if_pos hb]
theorem fp_cf {fs : Nat → Nat} {lv cn hc : Nat} {hv : Nat → Int32} {nx : Nat} {cf : Bool} {n t f h : Nat} {rs im : Nat → Nat} (hx : nx < hc) (h0 : ¬ hv nx ≤ 0) (hh : (hv nx).toNatClampNeg = h) (hb : ¬ (cf = true ∨ ¬ h ≤ cn ∨ lv.testBit h = false ∨ pt_rdy (fs h) t f = false)) (hy : nb_d (fs h) f = 0) : pt_fp fs lv cn hv (hc - nx) nx cf n t f rs im = pt_fp fs lv cn hv (hc - (nx + 1)) (nx + 1) true n t f rs im := by
  rw [show hc - nx = (hc - (nx + 1)) + 1 by omega, pt_fp, if_neg h0, hh, if_neg hb, if_pos hy]
theorem fp_go {fs : Nat → Nat} {lv cn hc : Nat} {hv : Nat → Int32} {nx : Nat} {cf : Bool} {n t f h : Nat} {rs im : Nat → Nat} (hx : nx < hc) (h0 : ¬ hv nx ≤ 0) (hh : (hv nx).toNatClampNeg = h) (hb : ¬ (cf = true ∨ ¬ h ≤ cn ∨ lv.testBit h = false ∨ pt_rdy (fs h) t f = false)) (hy : ¬ nb_d (fs h) f = 0) : pt_fp fs lv cn hv (hc - nx) nx cf n t f rs im = pt_fp fs lv cn hv (hc - (nx + 1)) (nx + 1) false (n + 1) (t ||| nb_d (fs h) f) (f ||| nb_op (nb_d (fs h) f)) (va_up rs n h) (va_up im n (nb_d (fs h) f)) := by
  rw [show hc - nx = (hc - (nx + 1)) + 1 by omega, pt_fp, if_neg h0, hh, if_neg hb, if_neg hy]
theorem fp_en {fs : Nat → Nat} {lv cn hc : Nat} {hv : Nat → Int32} {nx : Nat} {cf : Bool} {n t f : Nat} {rs im : Nat → Nat} (hx : hc ≤ nx) : pt_fp fs lv cn hv (hc - nx) nx cf n t f rs im = (true, nx, cf, n, t, f, rs, im) := by
  rw [show hc - nx = 0 by omega, pt_fp]
theorem fp_nx (fs : Nat → Nat) (lv cn : Nat) (hv : Nat → Int32) : ∀ (k nx : Nat) (cf : Bool) (n t f : Nat) (rs im : Nat → Nat), nx ≤ (pt_fp fs lv cn hv k nx cf n t f rs im).2.1 ∧ (pt_fp fs lv cn hv k nx cf n t f rs im).2.1 ≤ nx + k := by
  intro k
  induction k with
  | zero => intro nx cf n t f rs im; exact ⟨Nat.le_refl _, Nat.le_refl _⟩
  | succ k ih =>
    intro nx cf n t f rs im
    rw [pt_fp]
    split
    · exact ⟨Nat.le_refl _, Nat.le_add_right _ _⟩
    · split
      · exact ⟨Nat.le_refl _, Nat.le_add_right _ _⟩
      · split
        · have h := ih (nx + 1) true n t f rs im; exact ⟨by omega, by omega⟩
        · have h := ih (nx + 1) false (n + 1) (t ||| nb_d (fs (hv nx).toNatClampNeg) f) (f ||| nb_op (nb_d (fs (hv nx).toNatClampNeg) f)) (va_up rs n (hv nx).toNatClampNeg) (va_up im n (nb_d (fs (hv nx).toNatClampNeg) f)); exact ⟨by omega, by omega⟩
/-- the partners are followed, from p on -/
def pt_vp (fs : Nat → Nat) (lv cn pv rc : Nat) (hv : Nat → Int32) (hc : Nat) : Nat → Nat → Nat → Bool → Nat → Nat → Nat → (Nat → Nat) → (Nat → Nat) → pt_V
  | 0, _, nx, cf, n, t, f, rs, im => (true, nx, cf, n, t, f, rs, im)
  | k + 1, p, nx, cf, n, t, f, rs, im =>
    if lv.testBit p = false ∨ fs p &&& pv = 0 then pt_vp fs lv cn pv rc hv hc k (p + 1) nx cf n t f rs im
    else if ¬ hv nx = -nI p then (false, nx, cf, n, t, f, rs, im)
    else if ¬ nb_d (fs p) pv &&& rc = 0 then pt_vp fs lv cn pv rc hv hc k (p + 1) (nx + 1) cf n t f rs im
    else
      let Z := pt_fp fs lv cn hv (hc - (nx + 1)) (nx + 1) false 0 (rc ||| nb_op (nb_d (fs p) pv)) (nb_op (rc ||| nb_op (nb_d (fs p) pv))) rs im
      if Z.1 = true ∧ Z.2.2.1 = true then pt_vp fs lv cn pv rc hv hc k (p + 1) Z.2.1 Z.2.2.1 Z.2.2.2.1 Z.2.2.2.2.1 Z.2.2.2.2.2.1 Z.2.2.2.2.2.2.1 Z.2.2.2.2.2.2.2
      else (false, Z.2)
/-- a clause is good or not -/
def pt_good (fs : Nat → Nat) (lv cn w pb x : Nat) (hv : Nat → Int32) (hc : Nat) (rs im : Nat → Nat) : pt_V :=
  let Z := pt_fp fs lv cn hv (hc - 0) 0 false 0 (nb_op x) (nb_op (nb_op x)) rs im
  if Z.1 = false then (false, Z.2)
  else if Z.2.2.1 = true then (decide (Z.2.1 = hc), Z.2)
  else if w = 0 then (false, Z.2)
  else
    let Y := pt_vp fs lv cn (2 ^ pb) Z.2.2.2.2.1 hv hc cn 1 Z.2.1 Z.2.2.1 Z.2.2.2.1 Z.2.2.2.2.1 Z.2.2.2.2.2.1 Z.2.2.2.2.2.2.1 Z.2.2.2.2.2.2.2
    if Y.1 = false then (false, Y.2) else (decide (Y.2.1 = hc), Y.2)

theorem dc_Vf_followsPositives_0 : decode bc_Vf_followsPositives 0 = .ok (.aload_n 0, 1) := by decide +kernel
theorem dc_Vf_followsPositives_1 : decode bc_Vf_followsPositives 1 = .ok (.iconst 0, 1) := by decide +kernel
theorem dc_Vf_followsPositives_2 : decode bc_Vf_followsPositives 2 = .ok (.putfield 88, 3) := by decide +kernel
theorem dc_Vf_followsPositives_5 : decode bc_Vf_followsPositives 5 = .ok (.aload_n 0, 1) := by decide +kernel
theorem dc_Vf_followsPositives_6 : decode bc_Vf_followsPositives 6 = .ok (.getfield 67, 3) := by decide +kernel
theorem dc_Vf_followsPositives_9 : decode bc_Vf_followsPositives 9 = .ok (.aload_n 0, 1) := by decide +kernel
theorem dc_Vf_followsPositives_10 : decode bc_Vf_followsPositives 10 = .ok (.getfield 17, 3) := by decide +kernel
theorem dc_Vf_followsPositives_13 : decode bc_Vf_followsPositives 13 = .ok (.iload_n 1, 1) := by decide +kernel
theorem dc_Vf_followsPositives_14 : decode bc_Vf_followsPositives 14 = .ok (.invokevirtual 98, 3) := by decide +kernel
theorem dc_Vf_followsPositives_17 : decode bc_Vf_followsPositives 17 = .ok (.if_icmp .ge (123), 3) := by decide +kernel
theorem dc_Vf_followsPositives_20 : decode bc_Vf_followsPositives 20 = .ok (.aload_n 0, 1) := by decide +kernel
theorem dc_Vf_followsPositives_21 : decode bc_Vf_followsPositives 21 = .ok (.getfield 17, 3) := by decide +kernel
theorem dc_Vf_followsPositives_24 : decode bc_Vf_followsPositives 24 = .ok (.iload_n 1, 1) := by decide +kernel
theorem dc_Vf_followsPositives_25 : decode bc_Vf_followsPositives 25 = .ok (.aload_n 0, 1) := by decide +kernel
theorem dc_Vf_followsPositives_26 : decode bc_Vf_followsPositives 26 = .ok (.getfield 67, 3) := by decide +kernel
theorem dc_Vf_followsPositives_29 : decode bc_Vf_followsPositives 29 = .ok (.invokevirtual 112, 3) := by decide +kernel
theorem dc_Vf_followsPositives_32 : decode bc_Vf_followsPositives 32 = .ok (.ifCond .le (108), 3) := by decide +kernel
theorem dc_Vf_followsPositives_35 : decode bc_Vf_followsPositives 35 = .ok (.aload_n 0, 1) := by decide +kernel
theorem dc_Vf_followsPositives_36 : decode bc_Vf_followsPositives 36 = .ok (.getfield 17, 3) := by decide +kernel
theorem dc_Vf_followsPositives_39 : decode bc_Vf_followsPositives 39 = .ok (.iload_n 1, 1) := by decide +kernel
theorem dc_Vf_followsPositives_40 : decode bc_Vf_followsPositives 40 = .ok (.aload_n 0, 1) := by decide +kernel
theorem dc_Vf_followsPositives_41 : decode bc_Vf_followsPositives 41 = .ok (.getfield 67, 3) := by decide +kernel
theorem dc_Vf_followsPositives_44 : decode bc_Vf_followsPositives 44 = .ok (.invokevirtual 112, 3) := by decide +kernel
theorem dc_Vf_followsPositives_47 : decode bc_Vf_followsPositives 47 = .ok (.istore_n 2, 1) := by decide +kernel
theorem dc_Vf_followsPositives_48 : decode bc_Vf_followsPositives 48 = .ok (.aload_n 0, 1) := by decide +kernel
theorem dc_Vf_followsPositives_49 : decode bc_Vf_followsPositives 49 = .ok (.getfield 88, 3) := by decide +kernel
theorem dc_Vf_followsPositives_52 : decode bc_Vf_followsPositives 52 = .ok (.ifCond .ne (44), 3) := by decide +kernel
theorem dc_Vf_followsPositives_55 : decode bc_Vf_followsPositives 55 = .ok (.aload_n 0, 1) := by decide +kernel
theorem dc_Vf_followsPositives_56 : decode bc_Vf_followsPositives 56 = .ok (.getfield 7, 3) := by decide +kernel
theorem dc_Vf_followsPositives_59 : decode bc_Vf_followsPositives 59 = .ok (.iload_n 2, 1) := by decide +kernel
theorem dc_Vf_followsPositives_60 : decode bc_Vf_followsPositives 60 = .ok (.invokevirtual 115, 3) := by decide +kernel
theorem dc_Vf_followsPositives_63 : decode bc_Vf_followsPositives 63 = .ok (.ifCond .eq (33), 3) := by decide +kernel
theorem dc_Vf_followsPositives_66 : decode bc_Vf_followsPositives 66 = .ok (.aload_n 0, 1) := by decide +kernel
theorem dc_Vf_followsPositives_67 : decode bc_Vf_followsPositives 67 = .ok (.getfield 31, 3) := by decide +kernel
theorem dc_Vf_followsPositives_70 : decode bc_Vf_followsPositives 70 = .ok (.iload_n 2, 1) := by decide +kernel
theorem dc_Vf_followsPositives_71 : decode bc_Vf_followsPositives 71 = .ok (.invokestatic 59, 3) := by decide +kernel
theorem dc_Vf_followsPositives_74 : decode bc_Vf_followsPositives 74 = .ok (.ifCond .eq (22), 3) := by decide +kernel
theorem dc_Vf_followsPositives_77 : decode bc_Vf_followsPositives 77 = .ok (.aload_n 0, 1) := by decide +kernel
theorem dc_Vf_followsPositives_78 : decode bc_Vf_followsPositives 78 = .ok (.getfield 21, 3) := by decide +kernel
theorem dc_Vf_followsPositives_81 : decode bc_Vf_followsPositives 81 = .ok (.aload_n 0, 1) := by decide +kernel
theorem dc_Vf_followsPositives_82 : decode bc_Vf_followsPositives 82 = .ok (.getfield 7, 3) := by decide +kernel
theorem dc_Vf_followsPositives_85 : decode bc_Vf_followsPositives 85 = .ok (.getfield 70, 3) := by decide +kernel
theorem dc_Vf_followsPositives_88 : decode bc_Vf_followsPositives 88 = .ok (.iload_n 2, 1) := by decide +kernel
theorem dc_Vf_followsPositives_89 : decode bc_Vf_followsPositives 89 = .ok (.iaload, 1) := by decide +kernel
theorem dc_Vf_followsPositives_90 : decode bc_Vf_followsPositives 90 = .ok (.invokevirtual 118, 3) := by decide +kernel
theorem dc_Vf_followsPositives_93 : decode bc_Vf_followsPositives 93 = .ok (.ifCond .ne (5), 3) := by decide +kernel
theorem dc_Vf_followsPositives_96 : decode bc_Vf_followsPositives 96 = .ok (.iconst 0, 1) := by decide +kernel
theorem dc_Vf_followsPositives_97 : decode bc_Vf_followsPositives 97 = .ok (.ireturn, 1) := by decide +kernel
theorem dc_Vf_followsPositives_98 : decode bc_Vf_followsPositives 98 = .ok (.aload_n 0, 1) := by decide +kernel
theorem dc_Vf_followsPositives_99 : decode bc_Vf_followsPositives 99 = .ok (.aload_n 0, 1) := by decide +kernel
theorem dc_Vf_followsPositives_100 : decode bc_Vf_followsPositives 100 = .ok (.getfield 21, 3) := by decide +kernel
theorem dc_Vf_followsPositives_103 : decode bc_Vf_followsPositives 103 = .ok (.aload_n 0, 1) := by decide +kernel
theorem dc_Vf_followsPositives_104 : decode bc_Vf_followsPositives 104 = .ok (.getfield 7, 3) := by decide +kernel
theorem dc_Vf_followsPositives_107 : decode bc_Vf_followsPositives 107 = .ok (.getfield 70, 3) := by decide +kernel
theorem dc_Vf_followsPositives_110 : decode bc_Vf_followsPositives 110 = .ok (.iload_n 2, 1) := by decide +kernel
theorem dc_Vf_followsPositives_111 : decode bc_Vf_followsPositives 111 = .ok (.iaload, 1) := by decide +kernel
theorem dc_Vf_followsPositives_112 : decode bc_Vf_followsPositives 112 = .ok (.iload_n 2, 1) := by decide +kernel
theorem dc_Vf_followsPositives_113 : decode bc_Vf_followsPositives 113 = .ok (.invokevirtual 121, 3) := by decide +kernel
theorem dc_Vf_followsPositives_116 : decode bc_Vf_followsPositives 116 = .ok (.ifCond .ne (7), 3) := by decide +kernel
theorem dc_Vf_followsPositives_119 : decode bc_Vf_followsPositives 119 = .ok (.iconst 1, 1) := by decide +kernel
theorem dc_Vf_followsPositives_120 : decode bc_Vf_followsPositives 120 = .ok (.goto (4), 3) := by decide +kernel
theorem dc_Vf_followsPositives_123 : decode bc_Vf_followsPositives 123 = .ok (.iconst 0, 1) := by decide +kernel
theorem dc_Vf_followsPositives_124 : decode bc_Vf_followsPositives 124 = .ok (.putfield 88, 3) := by decide +kernel
theorem dc_Vf_followsPositives_127 : decode bc_Vf_followsPositives 127 = .ok (.aload_n 0, 1) := by decide +kernel
theorem dc_Vf_followsPositives_128 : decode bc_Vf_followsPositives 128 = .ok (.dup, 1) := by decide +kernel
theorem dc_Vf_followsPositives_129 : decode bc_Vf_followsPositives 129 = .ok (.getfield 67, 3) := by decide +kernel
theorem dc_Vf_followsPositives_132 : decode bc_Vf_followsPositives 132 = .ok (.iconst 1, 1) := by decide +kernel
theorem dc_Vf_followsPositives_133 : decode bc_Vf_followsPositives 133 = .ok (.iadd, 1) := by decide +kernel
theorem dc_Vf_followsPositives_134 : decode bc_Vf_followsPositives 134 = .ok (.putfield 67, 3) := by decide +kernel
theorem dc_Vf_followsPositives_137 : decode bc_Vf_followsPositives 137 = .ok (.goto (-132), 3) := by decide +kernel
theorem dc_Vf_followsPositives_140 : decode bc_Vf_followsPositives 140 = .ok (.iconst 1, 1) := by decide +kernel
theorem dc_Vf_followsPositives_141 : decode bc_Vf_followsPositives 141 = .ok (.ireturn, 1) := by decide +kernel
set_option maxHeartbeats 4000000 in
set_option maxRecDepth 100000 in
theorem ct_Vf_followsPositives (l : Launch) (D : va_G) (cI cZ : ClassId) (sz : Nat) (o : Nat) (xc : Nat) (xs : Nat) (xt : Nat) (xa : Nat) (lv : Nat) (nx : Nat) (cf : Bool) (ca : Nat) (cb : Nat) (cd : Nat) (cn : Nat) (fz : Nat → Nat) (fs : Nat → Nat) (fl : Nat → Int32) (aa : Nat) (ab : Nat) (n : Nat) (t : Nat) (f : Nat) (rs : Nat → Nat) (im : Nat → Nat) (ta : Nat) (tb : Nat) (td : Nat) (g : Nat) (mk : Nat) (ckd : Bool) (ft : Nat → Nat) (fc : Nat → Nat) (fr : Nat → Int32) (j : Nat) (hcn : cn ≤ 32) (h16 : ∀ j, fs j < 65536) (hlv : lv < 2 ^ 62) (hb0 : ∀ j, 1 ≤ j → j ≤ 32 → ft j + fc j ≤ 2048) (hj32 : j ≤ 32) (hcap : pt_cap n t f) (hnx : nx ≤ 2048) : Met l yn_Vf_followsPositives (Cond.code yn_Vf_followsPositives bc_Vf_followsPositives 3 (some .boolean) :: kx_all) ({ frames := 2, cells := 0, slots := 0, locals := 43 } : Room) (kp [.ref o, .int (nI j)] D cI cZ [vf_c o xc xs xt xa lv nx cf, cl_c xc ca cb cd cn, ar_n cI ca 33 fz, ar_n cI cb 33 fs, ar_i cI cd (33 * 8) fl, as_c xa aa ab n t f, ar_n cI aa 8 rs, ar_n cI ab 8 im, tr_c xt ta tb td g mk ckd, ar_n cI ta 33 ft, ar_n cI tb 33 fc, ar_i cI td 2048 fr] sz) (kw_q (some (.int (kb_i ((pt_fp fs lv cn (fun k => pt_hv ft fc fr j k) (pt_hc fc j - nx) nx false n t f rs im).1)))) D kc_l [vf_c o xc xs xt xa lv ((pt_fp fs lv cn (fun k => pt_hv ft fc fr j k) (pt_hc fc j - nx) nx false n t f rs im).2.1) ((pt_fp fs lv cn (fun k => pt_hv ft fc fr j k) (pt_hc fc j - nx) nx false n t f rs im).2.2.1), cl_c xc ca cb cd cn, ar_n cI ca 33 fz, ar_n cI cb 33 fs, ar_i cI cd (33 * 8) fl, as_c xa aa ab ((pt_fp fs lv cn (fun k => pt_hv ft fc fr j k) (pt_hc fc j - nx) nx false n t f rs im).2.2.2.1) ((pt_fp fs lv cn (fun k => pt_hv ft fc fr j k) (pt_hc fc j - nx) nx false n t f rs im).2.2.2.2.1) ((pt_fp fs lv cn (fun k => pt_hv ft fc fr j k) (pt_hc fc j - nx) nx false n t f rs im).2.2.2.2.2.1), ar_n cI aa 8 ((pt_fp fs lv cn (fun k => pt_hv ft fc fr j k) (pt_hc fc j - nx) nx false n t f rs im).2.2.2.2.2.2.1), ar_n cI ab 8 ((pt_fp fs lv cn (fun k => pt_hv ft fc fr j k) (pt_hc fc j - nx) nx false n t f rs im).2.2.2.2.2.2.2), tr_c xt ta tb td g mk ckd, ar_n cI ta 33 ft, ar_n cI tb 33 fc, ar_i cI td 2048 fr] (va_A [vf_c o xc xs xt xa lv nx cf, cl_c xc ca cb cd cn, ar_n cI ca 33 fz, ar_n cI cb 33 fs, ar_i cI cd (33 * 8) fl, as_c xa aa ab n t f, ar_n cI aa 8 rs, ar_n cI ab 8 im, tr_c xt ta tb td g mk ckd, ar_n cI ta 33 ft, ar_n cI tb 33 fc, ar_i cI td 2048 fr] sz)) 0 0 (va_A [vf_c o xc xs xt xa lv nx cf, cl_c xc ca cb cd cn, ar_n cI ca 33 fz, ar_n cI cb 33 fs, ar_i cI cd (33 * 8) fl, as_c xa aa ab n t f, ar_n cI aa 8 rs, ar_n cI ab 8 im, tr_c xt ta tb td g mk ckd, ar_n cI ta 33 ft, ar_n cI tb 33 fc, ar_i cI td 2048 fr] sz) := by
  refine kx_metW (by decide) (Nat.le_of_ble_eq_true rfl) ?_
  intro p e s m below meth c ls A hx hb hr hml hts hown hlocks hin hA hP hK hD hN hl hS
  have hown : s.vm.findClass rn_Vf = some m.cls := hown
  have hl : lv_has ls 3 [(0, .ref o), (1, .int (nI j))] := hl
  have hcb : pt_hc fc j ≤ 2048 := by
    unfold pt_hc
    split
    · have := hb0 j (by omega) (by omega); omega
    · decide
  refine lv_aload_n hx hb dc_Vf_followsPositives_0 rfl (lv_at hl 0 rfl) ?_
  refine lv_iconst (v := nI 0) hx hb dc_Vf_followsPositives_1 (by decide +kernel) ?_
  refine kn_top (y := kb_i false) (by decide +kernel) ?_
  refine va_put (ci := 8) (v := .int (kb_i false)) (ty := .boolean) (C := rn_Vf) (T := fd_Vf) (N := 7) hx hb hts in_Vf ty_Vf tk_Vf nm_Vf hown hK hP hD hS 0 rfl rfl 6 (by decide) (hts _ wd_683) (fun _ h9 => h9) rfl (by decide +kernel) (kb_nar _) (kb_fit _) (Nat.le_of_ble_eq_true rfl) dc_Vf_followsPositives_2 (fun H locs hP hD hS => ?_)
  have hP : va_P D kc_l [vf_c o xc xs xt xa lv nx false, cl_c xc ca cb cd cn, ar_n cI ca 33 fz, ar_n cI cb 33 fs, ar_i cI cd (33 * 8) fl, as_c xa aa ab n t f, ar_n cI aa 8 rs, ar_n cI ab 8 im, tr_c xt ta tb td g mk ckd, ar_n cI ta 33 ft, ar_n cI tb 33 fc, ar_i cI td 2048 fr] H := hP
  have hD : va_D A [vf_c o xc xs xt xa lv nx false, cl_c xc ca cb cd cn, ar_n cI ca 33 fz, ar_n cI cb 33 fs, ar_i cI cd (33 * 8) fl, as_c xa aa ab n t f, ar_n cI aa 8 rs, ar_n cI ab 8 im, tr_c xt ta tb td g mk ckd, ar_n cI ta 33 ft, ar_n cI tb 33 fc, ar_i cI td 2048 fr] := hD
  have lp_5 : ∀ (K : Nat) (nk : Nat) (ck1 : Bool) (n1 : Nat) (t1 : Nat) (f1 : Nat) (rs1 : Nat → Nat) (im1 : Nat → Nat) (H : Heap) (locs : List Loc) (ls : Array Slot), pt_hc fc j - nk < K → va_P D kc_l [vf_c o xc xs xt xa lv nk ck1, cl_c xc ca cb cd cn, ar_n cI ca 33 fz, ar_n cI cb 33 fs, ar_i cI cd (33 * 8) fl, as_c xa aa ab n1 t1 f1, ar_n cI aa 8 rs1, ar_n cI ab 8 im1, tr_c xt ta tb td g mk ckd, ar_n cI ta 33 ft, ar_n cI tb 33 fc, ar_i cI td 2048 fr] H → va_D A [vf_c o xc xs xt xa lv nk ck1, cl_c xc ca cb cd cn, ar_n cI ca 33 fz, ar_n cI cb 33 fs, ar_i cI cd (33 * 8) fl, as_c xa aa ab n1 t1 f1, ar_n cI aa 8 rs1, ar_n cI ab 8 im1, tr_c xt ta tb td g mk ckd, ar_n cI ta 33 ft, ar_n cI tb 33 fc, ar_i cI td 2048 fr] → va_S A s.heap H locs → lv_has ls 3 [(0, .ref o), (1, .int (nI j))] → (pt_fp fs lv cn (fun k => pt_hv ft fc fr j k) (pt_hc fc j - nk) nk ck1 n1 t1 f1 rs1 im1 = pt_fp fs lv cn (fun k => pt_hv ft fc fr j k) (pt_hc fc j - nx) nx false n t f rs im) → (nx ≤ nk ∧ nk ≤ 2048) → (pt_cap n1 t1 f1) → W p l e ({ frames := 2, cells := 0, slots := 0, locals := 43 } : Room) s m ([.ref o, .int (nI j)] : List Value).toArray below meth c H locs 0 0 (MQ below (kw_q (some (.int (kb_i ((pt_fp fs lv cn (fun k => pt_hv ft fc fr j k) (pt_hc fc j - nx) nx false n t f rs im).1)))) D kc_l [vf_c o xc xs xt xa lv ((pt_fp fs lv cn (fun k => pt_hv ft fc fr j k) (pt_hc fc j - nx) nx false n t f rs im).2.1) ((pt_fp fs lv cn (fun k => pt_hv ft fc fr j k) (pt_hc fc j - nx) nx false n t f rs im).2.2.1), cl_c xc ca cb cd cn, ar_n cI ca 33 fz, ar_n cI cb 33 fs, ar_i cI cd (33 * 8) fl, as_c xa aa ab ((pt_fp fs lv cn (fun k => pt_hv ft fc fr j k) (pt_hc fc j - nx) nx false n t f rs im).2.2.2.1) ((pt_fp fs lv cn (fun k => pt_hv ft fc fr j k) (pt_hc fc j - nx) nx false n t f rs im).2.2.2.2.1) ((pt_fp fs lv cn (fun k => pt_hv ft fc fr j k) (pt_hc fc j - nx) nx false n t f rs im).2.2.2.2.2.1), ar_n cI aa 8 ((pt_fp fs lv cn (fun k => pt_hv ft fc fr j k) (pt_hc fc j - nx) nx false n t f rs im).2.2.2.2.2.2.1), ar_n cI ab 8 ((pt_fp fs lv cn (fun k => pt_hv ft fc fr j k) (pt_hc fc j - nx) nx false n t f rs im).2.2.2.2.2.2.2), tr_c xt ta tb td g mk ckd, ar_n cI ta 33 ft, ar_n cI tb 33 fc, ar_i cI td 2048 fr] A) ([.ref o, .int (nI j)] : List Value).toArray s 0 0 A) (F0 m 5 ls []) := by
    intro K
    induction K with
    | zero =>
      intro nk ck1 n1 t1 f1 rs1 im1 H locs ls hk
      exact absurd hk (Nat.not_lt_zero _)
    | succ K ih =>
      intro nk ck1 n1 t1 f1 rs1 im1 H locs ls hk hP hD hS hl h1 h2 h3
      refine lv_aload_n hx hb dc_Vf_followsPositives_5 rfl (lv_at hl 0 rfl) ?_
      refine va_get (ci := 8) (v := .int (nI nk)) (C := rn_Vf) (T := fd_Vf) (N := 7) hx hb hts in_Vf hown hK hP 0 rfl rfl 5 (by decide) (hts _ wd_682) (fun _ h9 => h9) rfl dc_Vf_followsPositives_6 ?_
      refine lv_aload_n hx hb dc_Vf_followsPositives_9 rfl (lv_at hl 0 rfl) ?_
      refine va_get (ci := 8) (v := .ref xt) (C := rn_Vf) (T := fd_Vf) (N := 7) hx hb hts in_Vf hown hK hP 0 rfl rfl 2 (by decide) (hts _ wd_679) (fun _ h9 => h9) rfl dc_Vf_followsPositives_10 ?_
      refine lv_iload_n hx hb dc_Vf_followsPositives_13 rfl (lv_at hl 1 rfl) ?_
      refine kr_call1 (va_runV (As := [.int (nI j)]) (rest := [.int (nI nk)]) ⟨hx, hb, hml, hown, hts⟩ (ct_Tr_countOf l D cI cZ _ xt ta tb td g mk ckd ft fc fr j (by omega)) (cwV 1 hts (kx_gV wd_717 wd_268 wd_269 wd_7 wd_270) rfl rfl rfl ⟨rfl, yd_Tr_countOf⟩ ⟨Nat.le_of_ble_eq_true rfl, Nat.le_of_ble_eq_true rfl⟩) (kp_V (q0 := 8) (ci := 5) hP hD hK hN [8, 9, 10, 11] rfl rfl rfl rfl rfl) rfl rfl hl.1 rfl (lv_room (Nat.le_of_ble_eq_true rfl)) dc_Vf_followsPositives_14 ⟨Nat.le_of_ble_eq_true rfl, Nat.le_of_ble_eq_true rfl⟩) ?_
      refine kn_icmp_ge hx hb (by omega) (by omega) dc_Vf_followsPositives_17 rfl (fun hc17 => ?_) (fun hc17 => ?_)
      · refine lv_iconst (v := nI 1) hx hb dc_Vf_followsPositives_140 (by decide +kernel) ?_
        refine kn_top (y := kb_i true) (by decide +kernel) ?_
        exact kw_zret hx hb hr hlocks hP hD hS dc_Vf_followsPositives_141 (by rw [← h1, fp_en (by omega)]) (by rw [← h1, fp_en (by omega)])
      · refine lv_aload_n hx hb dc_Vf_followsPositives_20 rfl (lv_at hl 0 rfl) ?_
        refine va_get (ci := 8) (v := .ref xt) (C := rn_Vf) (T := fd_Vf) (N := 7) hx hb hts in_Vf hown hK hP 0 rfl rfl 2 (by decide) (hts _ wd_679) (fun _ h9 => h9) rfl dc_Vf_followsPositives_21 ?_
        refine lv_iload_n hx hb dc_Vf_followsPositives_24 rfl (lv_at hl 1 rfl) ?_
        refine lv_aload_n hx hb dc_Vf_followsPositives_25 rfl (lv_at hl 0 rfl) ?_
        refine va_get (ci := 8) (v := .int (nI nk)) (C := rn_Vf) (T := fd_Vf) (N := 7) hx hb hts in_Vf hown hK hP 0 rfl rfl 5 (by decide) (hts _ wd_682) (fun _ h9 => h9) rfl dc_Vf_followsPositives_26 ?_
        refine kr_call1 (va_runV (As := [.int (nI j), .int (nI nk)]) (rest := []) ⟨hx, hb, hml, hown, hts⟩ (ct_Tr_hintAt l D cI cZ _ xt ta tb td g mk ckd ft fc fr j nk (hb0) (by omega) (by omega)) (cwV 2 hts (kx_gV wd_718 wd_276 wd_277 wd_7 wd_278) rfl rfl rfl ⟨rfl, yd_Tr_hintAt⟩ ⟨Nat.le_of_ble_eq_true rfl, Nat.le_of_ble_eq_true rfl⟩) (kp_V (q0 := 8) (ci := 5) hP hD hK hN [8, 9, 10, 11] rfl rfl rfl rfl rfl) rfl rfl hl.1 rfl (lv_room (Nat.le_of_ble_eq_true rfl)) dc_Vf_followsPositives_29 ⟨Nat.le_of_ble_eq_true rfl, Nat.le_of_ble_eq_true rfl⟩) ?_
        refine lv_if_le hx hb dc_Vf_followsPositives_32 rfl (fun hc32 => ?_) (fun hc32 => ?_)
        · refine lv_iconst (v := nI 1) hx hb dc_Vf_followsPositives_140 (by decide +kernel) ?_
          refine kn_top (y := kb_i true) (by decide +kernel) ?_
          exact kw_zret hx hb hr hlocks hP hD hS dc_Vf_followsPositives_141 (by rw [← h1, fp_neg (by omega) hc32]) (by rw [← h1, fp_neg (by omega) hc32])
        · obtain ⟨h, hh31, hhe⟩ := nI_of (x := pt_hv ft fc fr j nk) (fun q => hc32 (Int32.le_of_lt q))
          have hcl : (pt_hv ft fc fr j nk).toNatClampNeg = h := by rw [hhe, nI_clamp hh31]
          have hh1 : 1 ≤ h := by
            rcases Nat.eq_zero_or_pos h with q | q
            · exfalso; rw [hhe, q] at hc32; exact hc32 (by decide +kernel)
            · exact q
          refine lv_aload_n hx hb dc_Vf_followsPositives_35 rfl (lv_at hl 0 rfl) ?_
          refine va_get (ci := 8) (v := .ref xt) (C := rn_Vf) (T := fd_Vf) (N := 7) hx hb hts in_Vf hown hK hP 0 rfl rfl 2 (by decide) (hts _ wd_679) (fun _ h9 => h9) rfl dc_Vf_followsPositives_36 ?_
          refine lv_iload_n hx hb dc_Vf_followsPositives_39 rfl (lv_at hl 1 rfl) ?_
          refine lv_aload_n hx hb dc_Vf_followsPositives_40 rfl (lv_at hl 0 rfl) ?_
          refine va_get (ci := 8) (v := .int (nI nk)) (C := rn_Vf) (T := fd_Vf) (N := 7) hx hb hts in_Vf hown hK hP 0 rfl rfl 5 (by decide) (hts _ wd_682) (fun _ h9 => h9) rfl dc_Vf_followsPositives_41 ?_
          refine kr_call1 (va_runV (As := [.int (nI j), .int (nI nk)]) (rest := []) ⟨hx, hb, hml, hown, hts⟩ (ct_Tr_hintAt l D cI cZ _ xt ta tb td g mk ckd ft fc fr j nk (hb0) (by omega) (by omega)) (cwV 2 hts (kx_gV wd_718 wd_276 wd_277 wd_7 wd_278) rfl rfl rfl ⟨rfl, yd_Tr_hintAt⟩ ⟨Nat.le_of_ble_eq_true rfl, Nat.le_of_ble_eq_true rfl⟩) (kp_V (q0 := 8) (ci := 5) hP hD hK hN [8, 9, 10, 11] rfl rfl rfl rfl rfl) rfl rfl hl.1 rfl (lv_room (Nat.le_of_ble_eq_true rfl)) dc_Vf_followsPositives_44 ⟨Nat.le_of_ble_eq_true rfl, Nat.le_of_ble_eq_true rfl⟩) ?_
          refine kn_top (y := nI h) hhe ?_
          refine lv_istore_n (lv' := [(2, .int (nI h)), (0, .ref o), (1, .int (nI j))]) hx hb dc_Vf_followsPositives_47 rfl hl (by decide) rfl (fun ls hl => ?_)
          refine lv_aload_n hx hb dc_Vf_followsPositives_48 rfl (lv_at hl 1 rfl) ?_
          refine va_get (ci := 8) (v := .int (kb_i ck1)) (C := rn_Vf) (T := fd_Vf) (N := 7) hx hb hts in_Vf hown hK hP 0 rfl rfl 6 (by decide) (hts _ wd_683) (fun _ h9 => h9) rfl dc_Vf_followsPositives_49 ?_
          refine kb_if_ne hx hb dc_Vf_followsPositives_52 rfl (fun hc52 => ?_) (fun hc52 => ?_)
          · refine lv_iconst (v := nI 0) hx hb dc_Vf_followsPositives_96 (by decide +kernel) ?_
            refine kn_top (y := kb_i false) (by decide +kernel) ?_
            exact kw_zret hx hb hr hlocks hP hD hS dc_Vf_followsPositives_97 (by rw [← h1, fp_bad (by omega) hc32 hcl (Or.inl hc52)]) (by rw [← h1, fp_bad (by omega) hc32 hcl (Or.inl hc52)])
          · refine lv_aload_n hx hb dc_Vf_followsPositives_55 rfl (lv_at hl 1 rfl) ?_
            refine va_get (ci := 8) (v := .ref xc) (C := rn_Vf) (T := fd_Vf) (N := 7) hx hb hts in_Vf hown hK hP 0 rfl rfl 0 (by decide) (hts _ wd_677) (fun _ h9 => h9) rfl dc_Vf_followsPositives_56 ?_
            refine lv_iload_n hx hb dc_Vf_followsPositives_59 rfl (lv_at hl 0 rfl) ?_
            refine kr_call1 (va_runV (As := [.int (nI h)]) (rest := []) ⟨hx, hb, hml, hown, hts⟩ (ct_Cl_has l D cI cZ _ xc ca cb cd cn h (by omega) (hh31)) (cwV 1 hts (kx_gV wd_719 wd_240 wd_241 wd_4 wd_242) rfl rfl rfl ⟨rfl, yd_Cl_has⟩ ⟨Nat.le_of_ble_eq_true rfl, Nat.le_of_ble_eq_true rfl⟩) (kp_V (q0 := 1) (ci := 2) hP hD hK hN [1] rfl rfl rfl rfl rfl) rfl rfl hl.1 rfl (lv_room (Nat.le_of_ble_eq_true rfl)) dc_Vf_followsPositives_60 ⟨Nat.le_of_ble_eq_true rfl, Nat.le_of_ble_eq_true rfl⟩) ?_
            refine kb_if_eq hx hb dc_Vf_followsPositives_63 rfl (fun hc63 => ?_) (fun hc63 => ?_)
            · have hc63 := of_decide_eq_false hc63
              refine lv_iconst (v := nI 0) hx hb dc_Vf_followsPositives_96 (by decide +kernel) ?_
              refine kn_top (y := kb_i false) (by decide +kernel) ?_
              exact kw_zret hx hb hr hlocks hP hD hS dc_Vf_followsPositives_97 (by rw [← h1, fp_bad (by omega) hc32 hcl (Or.inr (Or.inl (by omega)))]) (by rw [← h1, fp_bad (by omega) hc32 hcl (Or.inr (Or.inl (by omega)))])
            · have hc63 := of_decide_eq_true hc63
              refine lv_aload_n hx hb dc_Vf_followsPositives_66 rfl (lv_at hl 1 rfl) ?_
              refine va_get (ci := 8) (v := .long (lN lv)) (C := rn_Vf) (T := fd_Vf) (N := 7) hx hb hts in_Vf hown hK hP 0 rfl rfl 4 (by decide) (hts _ wd_681) (fun _ h9 => h9) rfl dc_Vf_followsPositives_67 ?_
              refine lv_iload_n hx hb dc_Vf_followsPositives_70 rfl (lv_at hl 0 rfl) ?_
              refine kr_call1 (va_runSN (As := [.long (lN lv), .int (nI h)]) (rest := []) ⟨hx, hb, hml, hown, hts⟩ (ct_Pt_contains l D cI cZ _ lv h (hlv) (by omega)) ⟨va_cnB 2 hts (kx_gi wd_262) rfl rfl rfl (nw_706 hN) (hts _ wd_1) yd_Pt_contains ⟨Nat.le_of_ble_eq_true rfl, Nat.le_of_ble_eq_true rfl⟩, hts _ wd_261, trivial⟩ (kp_S hP hD hK hN [] rfl rfl) rfl rfl hl.1 rfl (lv_room (Nat.le_of_ble_eq_true rfl)) dc_Vf_followsPositives_71 ⟨Nat.le_of_ble_eq_true rfl, Nat.le_of_ble_eq_true rfl⟩) ?_
              refine kb_if_eq hx hb dc_Vf_followsPositives_74 rfl (fun hc74 => ?_) (fun hc74 => ?_)
              · refine lv_iconst (v := nI 0) hx hb dc_Vf_followsPositives_96 (by decide +kernel) ?_
                refine kn_top (y := kb_i false) (by decide +kernel) ?_
                exact kw_zret hx hb hr hlocks hP hD hS dc_Vf_followsPositives_97 (by rw [← h1, fp_bad (by omega) hc32 hcl (Or.inr (Or.inr (Or.inl hc74)))]) (by rw [← h1, fp_bad (by omega) hc32 hcl (Or.inr (Or.inr (Or.inl hc74)))])
              · refine lv_aload_n hx hb dc_Vf_followsPositives_77 rfl (lv_at hl 1 rfl) ?_
                refine va_get (ci := 8) (v := .ref xa) (C := rn_Vf) (T := fd_Vf) (N := 7) hx hb hts in_Vf hown hK hP 0 rfl rfl 3 (by decide) (hts _ wd_680) (fun _ h9 => h9) rfl dc_Vf_followsPositives_78 ?_
                refine lv_aload_n hx hb dc_Vf_followsPositives_81 rfl (lv_at hl 1 rfl) ?_
                refine va_get (ci := 8) (v := .ref xc) (C := rn_Vf) (T := fd_Vf) (N := 7) hx hb hts in_Vf hown hK hP 0 rfl rfl 0 (by decide) (hts _ wd_677) (fun _ h9 => h9) rfl dc_Vf_followsPositives_82 ?_
                refine va_getN (ci := 2) (v := .ref cb) (C := rn_Cl) (T := fd_Cl) (N := 4) hx hb hts in_Cl hown hK hP 1 rfl rfl 1 (by decide) (nf_69 hN) (fun _ h9 => h9) rfl dc_Vf_followsPositives_85 ?_
                refine lv_iload_n hx hb dc_Vf_followsPositives_88 rfl (lv_at hl 0 rfl) ?_
                refine ka_nald (t := fs) hx hb hK hP 3 0 rfl rfl (j := h) (by omega) (by omega) dc_Vf_followsPositives_89 ?_
                refine kr_call1 (va_runV (As := [.int (nI (fs h))]) (rest := []) ⟨hx, hb, hml, hown, hts⟩ (ct_As_isReady l D cI cZ _ xa aa ab n1 t1 f1 (fs h) (h16 _)) (cwV 1 hts (kx_gV wd_720 wd_629 wd_630 wd_8 wd_631) rfl rfl rfl ⟨rfl, yd_As_isReady⟩ ⟨Nat.le_of_ble_eq_true rfl, Nat.le_of_ble_eq_true rfl⟩) (kp_V (q0 := 5) (ci := 6) hP hD hK hN [5] rfl rfl rfl rfl rfl) rfl rfl hl.1 rfl (lv_room (Nat.le_of_ble_eq_true rfl)) dc_Vf_followsPositives_90 ⟨Nat.le_of_ble_eq_true rfl, Nat.le_of_ble_eq_true rfl⟩) ?_
                refine kb_if_ne hx hb dc_Vf_followsPositives_93 rfl (fun hc93 => ?_) (fun hc93 => ?_)
                · have hnb : ¬ (ck1 = true ∨ ¬ h ≤ cn ∨ lv.testBit h = false ∨ pt_rdy (fs h) t1 f1 = false) := fun q => by
                    rcases q with q | q | q | q
                    · rw [hc52] at q; exact absurd q (by decide)
                    · omega
                    · rw [hc74] at q; exact absurd q (by decide)
                    · rw [hc93] at q; exact absurd q (by decide)
                  refine lv_aload_n hx hb dc_Vf_followsPositives_98 rfl (lv_at hl 1 rfl) ?_
                  refine lv_aload_n hx hb dc_Vf_followsPositives_99 rfl (lv_at hl 1 rfl) ?_
                  refine va_get (ci := 8) (v := .ref xa) (C := rn_Vf) (T := fd_Vf) (N := 7) hx hb hts in_Vf hown hK hP 0 rfl rfl 3 (by decide) (hts _ wd_680) (fun _ h9 => h9) rfl dc_Vf_followsPositives_100 ?_
                  refine lv_aload_n hx hb dc_Vf_followsPositives_103 rfl (lv_at hl 1 rfl) ?_
                  refine va_get (ci := 8) (v := .ref xc) (C := rn_Vf) (T := fd_Vf) (N := 7) hx hb hts in_Vf hown hK hP 0 rfl rfl 0 (by decide) (hts _ wd_677) (fun _ h9 => h9) rfl dc_Vf_followsPositives_104 ?_
                  refine va_getN (ci := 2) (v := .ref cb) (C := rn_Cl) (T := fd_Cl) (N := 4) hx hb hts in_Cl hown hK hP 1 rfl rfl 1 (by decide) (nf_69 hN) (fun _ h9 => h9) rfl dc_Vf_followsPositives_107 ?_
                  refine lv_iload_n hx hb dc_Vf_followsPositives_110 rfl (lv_at hl 0 rfl) ?_
                  refine ka_nald (t := fs) hx hb hK hP 3 0 rfl rfl (j := h) (by omega) (by omega) dc_Vf_followsPositives_111 ?_
                  refine lv_iload_n hx hb dc_Vf_followsPositives_112 rfl (lv_at hl 0 rfl) ?_
                  by_cases hy0 : nb_d (fs h) f1 = 0
                  · refine kr_call1 (va_runV (As := [.int (nI (fs h)), .int (nI h)]) (rest := [.ref o]) ⟨hx, hb, hml, hown, hts⟩ (ct_As_follow_no l D cI cZ _ xa aa ab n1 t1 f1 (fs h) h (h16 _) (hy0)) (cwV 2 hts (kx_gV wd_721 wd_633 wd_634 wd_8 wd_635) rfl rfl rfl ⟨rfl, yd_As_follow⟩ ⟨Nat.le_of_ble_eq_true rfl, Nat.le_of_ble_eq_true rfl⟩) (kp_V (q0 := 5) (ci := 6) hP hD hK hN [5] rfl rfl rfl rfl rfl) rfl rfl hl.1 rfl (lv_room (Nat.le_of_ble_eq_true rfl)) dc_Vf_followsPositives_113 ⟨Nat.le_of_ble_eq_true rfl, Nat.le_of_ble_eq_true rfl⟩) ?_
                    refine kb_if_ne hx hb dc_Vf_followsPositives_116 rfl (fun hc116 => ?_) (fun hc116 => ?_)
                    · exact absurd hc116 (by decide)
                    · refine lv_iconst (v := nI 1) hx hb dc_Vf_followsPositives_119 (by decide +kernel) ?_
                      refine lv_goto hx hb dc_Vf_followsPositives_120 rfl ?_
                      refine kn_top (y := kb_i true) (by decide +kernel) ?_
                      refine va_put (ci := 8) (v := .int (kb_i true)) (ty := .boolean) (C := rn_Vf) (T := fd_Vf) (N := 7) hx hb hts in_Vf ty_Vf tk_Vf nm_Vf hown hK hP hD hS 0 rfl rfl 6 (by decide) (hts _ wd_683) (fun _ h9 => h9) rfl (by decide +kernel) (kb_nar _) (kb_fit _) (Nat.le_of_ble_eq_true rfl) dc_Vf_followsPositives_124 (fun H locs hP hD hS => ?_)
                      have hP : va_P D kc_l [vf_c o xc xs xt xa lv nk true, cl_c xc ca cb cd cn, ar_n cI ca 33 fz, ar_n cI cb 33 fs, ar_i cI cd (33 * 8) fl, as_c xa aa ab n1 t1 f1, ar_n cI aa 8 rs1, ar_n cI ab 8 im1, tr_c xt ta tb td g mk ckd, ar_n cI ta 33 ft, ar_n cI tb 33 fc, ar_i cI td 2048 fr] H := hP
                      have hD : va_D A [vf_c o xc xs xt xa lv nk true, cl_c xc ca cb cd cn, ar_n cI ca 33 fz, ar_n cI cb 33 fs, ar_i cI cd (33 * 8) fl, as_c xa aa ab n1 t1 f1, ar_n cI aa 8 rs1, ar_n cI ab 8 im1, tr_c xt ta tb td g mk ckd, ar_n cI ta 33 ft, ar_n cI tb 33 fc, ar_i cI td 2048 fr] := hD
                      refine lv_aload_n hx hb dc_Vf_followsPositives_127 rfl (lv_at hl 1 rfl) ?_
                      refine lv_dup hx hb dc_Vf_followsPositives_128 rfl ?_
                      refine va_get (ci := 8) (v := .int (nI nk)) (C := rn_Vf) (T := fd_Vf) (N := 7) hx hb hts in_Vf hown hK hP 0 rfl rfl 5 (by decide) (hts _ wd_682) (fun _ h9 => h9) rfl dc_Vf_followsPositives_129 ?_
                      refine lv_iconst (v := nI 1) hx hb dc_Vf_followsPositives_132 (by decide +kernel) ?_
                      refine kn_iadd hx hb dc_Vf_followsPositives_133 ?_
                      refine va_put (ci := 8) (v := .int (nI (nk + 1))) (ty := .int) (C := rn_Vf) (T := fd_Vf) (N := 7) hx hb hts in_Vf ty_Vf tk_Vf nm_Vf hown hK hP hD hS 0 rfl rfl 5 (by decide) (hts _ wd_682) (fun _ h9 => h9) rfl (by decide +kernel) rfl rfl (Nat.le_of_ble_eq_true rfl) dc_Vf_followsPositives_134 (fun H locs hP hD hS => ?_)
                      have hP : va_P D kc_l [vf_c o xc xs xt xa lv (nk + 1) true, cl_c xc ca cb cd cn, ar_n cI ca 33 fz, ar_n cI cb 33 fs, ar_i cI cd (33 * 8) fl, as_c xa aa ab n1 t1 f1, ar_n cI aa 8 rs1, ar_n cI ab 8 im1, tr_c xt ta tb td g mk ckd, ar_n cI ta 33 ft, ar_n cI tb 33 fc, ar_i cI td 2048 fr] H := hP
                      have hD : va_D A [vf_c o xc xs xt xa lv (nk + 1) true, cl_c xc ca cb cd cn, ar_n cI ca 33 fz, ar_n cI cb 33 fs, ar_i cI cd (33 * 8) fl, as_c xa aa ab n1 t1 f1, ar_n cI aa 8 rs1, ar_n cI ab 8 im1, tr_c xt ta tb td g mk ckd, ar_n cI ta 33 ft, ar_n cI tb 33 fc, ar_i cI td 2048 fr] := hD
                      refine lv_goto hx hb dc_Vf_followsPositives_137 rfl ?_
                      have hl := lv_sub (l' := [(0, .ref o), (1, .int (nI j))]) hl [1, 2] rfl
                      exact ih _ _ _ _ _ _ _ _ _ _ (by omega) hP hD hS hl (by rw [← h1]; exact (fp_cf (by omega) hc32 hcl hnb hy0).symm) (⟨by omega, by omega⟩) (h3)
                  · obtain ⟨hn8, hy16, hcap2⟩ := cap_step h3 (h16 h) hc93 hy0
                    refine kw_call1 (wr := [vf_c o xc xs xt xa lv nk ck1, cl_c xc ca cb cd cn, ar_n cI ca 33 fz, ar_n cI cb 33 fs, ar_i cI cd (33 * 8) fl, tr_c xt ta tb td g mk ckd, ar_n cI ta 33 ft, ar_n cI tb 33 fc, ar_i cI td 2048 fr]) (ws' := [vf_c o xc xs xt xa lv nk ck1, cl_c xc ca cb cd cn, ar_n cI ca 33 fz, ar_n cI cb 33 fs, ar_i cI cd (33 * 8) fl, as_c xa aa ab (n1 + 1) (t1 ||| nb_d (fs h) f1) (f1 ||| nb_op (nb_d (fs h) f1)), ar_n cI aa 8 (va_up rs1 n1 h), ar_n cI ab 8 (va_up im1 n1 (nb_d (fs h) f1)), tr_c xt ta tb td g mk ckd, ar_n cI ta 33 ft, ar_n cI tb 33 fc, ar_i cI td 2048 fr]) (va_runV (As := [.int (nI (fs h)), .int (nI h)]) (rest := [.ref o]) ⟨hx, hb, hml, hown, hts⟩ (ct_As_follow l D cI cZ _ xa aa ab n1 t1 f1 rs1 im1 (fs h) h (h16 _) (hy0) (hn8)) (cwV 2 hts (kx_gV wd_721 wd_633 wd_634 wd_8 wd_635) rfl rfl rfl ⟨rfl, yd_As_follow⟩ ⟨Nat.le_of_ble_eq_true rfl, Nat.le_of_ble_eq_true rfl⟩) (kp_V (q0 := 5) (ci := 6) hP hD hK hN [5, 6, 7] rfl rfl rfl rfl rfl) rfl rfl hl.1 rfl (lv_room (Nat.le_of_ble_eq_true rfl)) dc_Vf_followsPositives_113 ⟨Nat.le_of_ble_eq_true rfl, Nat.le_of_ble_eq_true rfl⟩) hP hD hS hA [5, 6, 7] [0, 1, 2, 3, 4, 8, 9, 10, 11] [0, 1, 2, 3, 4, 9, 10, 11, 5, 6, 7, 8] rfl rfl rfl (by decide) rfl rfl (fun H locs hP hD hS => ?_)
                    refine kb_if_ne hx hb dc_Vf_followsPositives_116 rfl (fun hc116 => ?_) (fun hc116 => ?_)
                    · refine lv_iconst (v := nI 0) hx hb dc_Vf_followsPositives_123 (by decide +kernel) ?_
                      refine kn_top (y := kb_i false) (by decide +kernel) ?_
                      refine va_put (ci := 8) (v := .int (kb_i false)) (ty := .boolean) (C := rn_Vf) (T := fd_Vf) (N := 7) hx hb hts in_Vf ty_Vf tk_Vf nm_Vf hown hK hP hD hS 0 rfl rfl 6 (by decide) (hts _ wd_683) (fun _ h9 => h9) rfl (by decide +kernel) (kb_nar _) (kb_fit _) (Nat.le_of_ble_eq_true rfl) dc_Vf_followsPositives_124 (fun H locs hP hD hS => ?_)
                      have hP : va_P D kc_l [vf_c o xc xs xt xa lv nk false, cl_c xc ca cb cd cn, ar_n cI ca 33 fz, ar_n cI cb 33 fs, ar_i cI cd (33 * 8) fl, as_c xa aa ab (n1 + 1) (t1 ||| nb_d (fs h) f1) (f1 ||| nb_op (nb_d (fs h) f1)), ar_n cI aa 8 (va_up rs1 n1 h), ar_n cI ab 8 (va_up im1 n1 (nb_d (fs h) f1)), tr_c xt ta tb td g mk ckd, ar_n cI ta 33 ft, ar_n cI tb 33 fc, ar_i cI td 2048 fr] H := hP
                      have hD : va_D A [vf_c o xc xs xt xa lv nk false, cl_c xc ca cb cd cn, ar_n cI ca 33 fz, ar_n cI cb 33 fs, ar_i cI cd (33 * 8) fl, as_c xa aa ab (n1 + 1) (t1 ||| nb_d (fs h) f1) (f1 ||| nb_op (nb_d (fs h) f1)), ar_n cI aa 8 (va_up rs1 n1 h), ar_n cI ab 8 (va_up im1 n1 (nb_d (fs h) f1)), tr_c xt ta tb td g mk ckd, ar_n cI ta 33 ft, ar_n cI tb 33 fc, ar_i cI td 2048 fr] := hD
                      refine lv_aload_n hx hb dc_Vf_followsPositives_127 rfl (lv_at hl 1 rfl) ?_
                      refine lv_dup hx hb dc_Vf_followsPositives_128 rfl ?_
                      refine va_get (ci := 8) (v := .int (nI nk)) (C := rn_Vf) (T := fd_Vf) (N := 7) hx hb hts in_Vf hown hK hP 0 rfl rfl 5 (by decide) (hts _ wd_682) (fun _ h9 => h9) rfl dc_Vf_followsPositives_129 ?_
                      refine lv_iconst (v := nI 1) hx hb dc_Vf_followsPositives_132 (by decide +kernel) ?_
                      refine kn_iadd hx hb dc_Vf_followsPositives_133 ?_
                      refine va_put (ci := 8) (v := .int (nI (nk + 1))) (ty := .int) (C := rn_Vf) (T := fd_Vf) (N := 7) hx hb hts in_Vf ty_Vf tk_Vf nm_Vf hown hK hP hD hS 0 rfl rfl 5 (by decide) (hts _ wd_682) (fun _ h9 => h9) rfl (by decide +kernel) rfl rfl (Nat.le_of_ble_eq_true rfl) dc_Vf_followsPositives_134 (fun H locs hP hD hS => ?_)
                      have hP : va_P D kc_l [vf_c o xc xs xt xa lv (nk + 1) false, cl_c xc ca cb cd cn, ar_n cI ca 33 fz, ar_n cI cb 33 fs, ar_i cI cd (33 * 8) fl, as_c xa aa ab (n1 + 1) (t1 ||| nb_d (fs h) f1) (f1 ||| nb_op (nb_d (fs h) f1)), ar_n cI aa 8 (va_up rs1 n1 h), ar_n cI ab 8 (va_up im1 n1 (nb_d (fs h) f1)), tr_c xt ta tb td g mk ckd, ar_n cI ta 33 ft, ar_n cI tb 33 fc, ar_i cI td 2048 fr] H := hP
                      have hD : va_D A [vf_c o xc xs xt xa lv (nk + 1) false, cl_c xc ca cb cd cn, ar_n cI ca 33 fz, ar_n cI cb 33 fs, ar_i cI cd (33 * 8) fl, as_c xa aa ab (n1 + 1) (t1 ||| nb_d (fs h) f1) (f1 ||| nb_op (nb_d (fs h) f1)), ar_n cI aa 8 (va_up rs1 n1 h), ar_n cI ab 8 (va_up im1 n1 (nb_d (fs h) f1)), tr_c xt ta tb td g mk ckd, ar_n cI ta 33 ft, ar_n cI tb 33 fc, ar_i cI td 2048 fr] := hD
                      refine lv_goto hx hb dc_Vf_followsPositives_137 rfl ?_
                      have hl := lv_sub (l' := [(0, .ref o), (1, .int (nI j))]) hl [1, 2] rfl
                      exact ih _ _ _ _ _ _ _ _ _ _ (by omega) hP hD hS hl (by rw [← h1]; exact (fp_go (by omega) hc32 hcl hnb hy0).symm) (⟨by omega, by omega⟩) (hcap2)
                    · exact absurd hc116 (by decide)
                · refine lv_iconst (v := nI 0) hx hb dc_Vf_followsPositives_96 (by decide +kernel) ?_
                  refine kn_top (y := kb_i false) (by decide +kernel) ?_
                  exact kw_zret hx hb hr hlocks hP hD hS dc_Vf_followsPositives_97 (by rw [← h1, fp_bad (by omega) hc32 hcl (Or.inr (Or.inr (Or.inr hc93)))]) (by rw [← h1, fp_bad (by omega) hc32 hcl (Or.inr (Or.inr (Or.inr hc93)))])
  exact lp_5 _ _ _ _ _ _ _ _ _ _ _ (Nat.lt_succ_self _) hP hD hS hl (rfl) (⟨by omega, by omega⟩) (hcap)
