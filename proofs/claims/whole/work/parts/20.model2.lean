/-! the reference: propagating -/
section KBI
variable {p : Program} {l : Launch} {e : Env} {R : Room} {s : State} {m : MethodId} {args : Array Value} {below : List Frame} {meth : Method} {c : Code} {H : Heap} {locs : List Loc} {cells slots : Nat} {Q : State → Prop}
variable {cc : ByteArray} {pc : Nat} {ls : Array Slot} {rest : List Value}
theorem kb_inj {a b : Bool} (h : kb_i a = kb_i b) : a = b := by
  cases a <;> cases b <;> first | rfl | exact absurd h (by decide)
theorem kb_icmp_ne (hexec : p.tables.exec = Jvm.exec) (hb : c.code = cc) {x y : Bool} {off : Int} {tgt : Nat} (hdg : decode cc pc = .ok (.if_icmp .ne off, 3)) (ht : (pc : Int) + off = (tgt : Int))
    (kt : ¬ x = y → W p l e R s m args below meth c H locs cells slots Q (F0 m tgt ls rest)) (kf : x = y → W p l e R s m args below meth c H locs cells slots Q (F0 m (pc + 3) ls rest)) : W p l e R s m args below meth c H locs cells slots Q (F0 m pc ls (.int (kb_i y) :: .int (kb_i x) :: rest)) :=
  lv_icmp_ne hexec hb hdg ht (fun h => kt (fun q => h (by rw [q]))) (fun h => kf (kb_inj h))
end KBI
theorem bits_s (x k : Nat) (h : x.testBit k = true) : pt_bits x (k + 1) = pt_bits x k + 1 := by
  rw [pt_bits, Nat.testBit_eq_decide_div_mod_eq] at *
  rw [of_decide_eq_true h]
theorem bits_mono (x : Nat) : ∀ a d, pt_bits x a ≤ pt_bits x (a + d) := by
  intro a d
  induction d with
  | zero => exact Nat.le_refl _
  | succ d ih => rw [← Nat.add_assoc, pt_bits]; omega
theorem bits_2 {x p q n : Nat} (hpq : p < q) (hq : q < n) (h1 : x.testBit p = true) (h2 : x.testBit q = true) : 2 ≤ pt_bits x n := by
  have a := bits_s x p h1
  have b := bits_mono x (p + 1) (q - (p + 1))
  have d := bits_s x q h2
  have e := bits_mono x (q + 1) (n - (q + 1))
  rw [show p + 1 + (q - (p + 1)) = q by omega] at b
  rw [show q + 1 + (n - (q + 1)) = n by omega] at e
  omega
theorem bits_pow : ∀ b, b < 16 → pt_bits (2 ^ b) 16 < 2 := by decide +kernel
theorem bits_one {y : Nat} (h : y < 65536) : pt_bits y 16 < 2 ↔ y &&& (y - 1) = 0 := by
  have hb16 : ∀ b, y.testBit b = true → b < 16 := fun b hb => by
    have h1 := Nat.ge_two_pow_of_testBit hb
    exact (Nat.pow_lt_pow_iff_right (by decide : 1 < 2)).mp (Nat.lt_of_le_of_lt h1 (show y < 2 ^ 16 from h))
  constructor
  · intro h2
    by_cases h0 : y = 0
    · rw [h0]; rfl
    · obtain ⟨b, hb⟩ := Nat.exists_testBit_of_ne_zero h0
      have hy : y = 2 ^ b := by
        apply Nat.eq_of_testBit_eq
        intro i
        rw [Nat.testBit_two_pow]
        by_cases hi : b = i
        · subst hi; rw [hb, decide_eq_true rfl]
        · rw [decide_eq_false hi]
          cases hx : y.testBit i with
          | false => rfl
          | true =>
            exfalso
            rcases Nat.lt_or_gt_of_ne hi with q | q
            · have := bits_2 q (hb16 i hx) hb hx; omega
            · have := bits_2 q (hb16 b hb) hx hb; omega
      rw [hy, Nat.and_two_pow_sub_one_eq_mod, Nat.mod_self]
  · intro h1
    by_cases h0 : y = 0
    · rw [h0]; decide
    · obtain ⟨b, hb⟩ := one_bit h0 h1
      rw [hb]
      exact bits_pow b (hb16 b (by rw [hb]; exact Nat.testBit_two_pow_self))
theorem bits_le (y : Nat) : ∀ k, pt_bits y k ≤ k := by
  intro k
  induction k with
  | zero => exact Nat.le_refl _
  | succ k ih => rw [pt_bits]; omega
theorem d_or {x t f : Nat} (h : x &&& t = 0) : nb_d x (t ||| f) = nb_d x f := by
  apply Nat.eq_of_testBit_eq
  intro i
  rw [nb_d_bit, nb_d_bit, Nat.testBit_or]
  have h1 : (x &&& t).testBit i = false := by rw [h]; exact Nat.zero_testBit i
  rw [Nat.testBit_and] at h1
  cases hx : x.testBit i with
  | false => rfl
  | true => rw [hx, Bool.true_and] at h1; rw [h1, Bool.false_or]
theorem rdy_ref {x t : Nat} (hx : x < 65536) : pt_rdy x t (nb_op t) = (decide (x &&& t = 0) && decide (pt_bits (nb_d x (t ||| nb_op t)) 16 < 2)) := by
  unfold pt_rdy
  by_cases h : x &&& t = 0
  · rw [d_or h, decide_eq_true h, Bool.true_and, Bool.true_and]
    exact decide_eq_decide.mpr (bits_one (nb_d_lt (n := 16) hx)).symm
  · rw [decide_eq_false h, Bool.false_and, Bool.false_and]

theorem dc_Mo_next_0 : decode bc_Mo_next 0 = .ok (.iconst 0, 1) := by decide +kernel
theorem dc_Mo_next_1 : decode bc_Mo_next 1 = .ok (.istore_n 1, 1) := by decide +kernel
theorem dc_Mo_next_2 : decode bc_Mo_next 2 = .ok (.iload_n 1, 1) := by decide +kernel
theorem dc_Mo_next_3 : decode bc_Mo_next 3 = .ok (.iconst 2, 1) := by decide +kernel
theorem dc_Mo_next_4 : decode bc_Mo_next 4 = .ok (.if_icmp .ge (80), 3) := by decide +kernel
theorem dc_Mo_next_7 : decode bc_Mo_next 7 = .ok (.iconst 1, 1) := by decide +kernel
theorem dc_Mo_next_8 : decode bc_Mo_next 8 = .ok (.istore_n 2, 1) := by decide +kernel
theorem dc_Mo_next_9 : decode bc_Mo_next 9 = .ok (.iload_n 2, 1) := by decide +kernel
theorem dc_Mo_next_10 : decode bc_Mo_next 10 = .ok (.aload_n 0, 1) := by decide +kernel
theorem dc_Mo_next_11 : decode bc_Mo_next 11 = .ok (.getfield 122, 3) := by decide +kernel
theorem dc_Mo_next_14 : decode bc_Mo_next 14 = .ok (.if_icmp .gt (64), 3) := by decide +kernel
theorem dc_Mo_next_17 : decode bc_Mo_next 17 = .ok (.aload_n 0, 1) := by decide +kernel
theorem dc_Mo_next_18 : decode bc_Mo_next 18 = .ok (.getfield 32, 3) := by decide +kernel
theorem dc_Mo_next_21 : decode bc_Mo_next 21 = .ok (.iload_n 2, 1) := by decide +kernel
theorem dc_Mo_next_22 : decode bc_Mo_next 22 = .ok (.baload, 1) := by decide +kernel
theorem dc_Mo_next_23 : decode bc_Mo_next 23 = .ok (.ifCond .eq (49), 3) := by decide +kernel
theorem dc_Mo_next_26 : decode bc_Mo_next 26 = .ok (.aload_n 0, 1) := by decide +kernel
theorem dc_Mo_next_27 : decode bc_Mo_next 27 = .ok (.getfield 35, 3) := by decide +kernel
theorem dc_Mo_next_30 : decode bc_Mo_next 30 = .ok (.iload_n 2, 1) := by decide +kernel
theorem dc_Mo_next_31 : decode bc_Mo_next 31 = .ok (.baload, 1) := by decide +kernel
theorem dc_Mo_next_32 : decode bc_Mo_next 32 = .ok (.iload_n 1, 1) := by decide +kernel
theorem dc_Mo_next_33 : decode bc_Mo_next 33 = .ok (.ifCond .ne (7), 3) := by decide +kernel
theorem dc_Mo_next_36 : decode bc_Mo_next 36 = .ok (.iconst 1, 1) := by decide +kernel
theorem dc_Mo_next_37 : decode bc_Mo_next 37 = .ok (.goto (4), 3) := by decide +kernel
theorem dc_Mo_next_40 : decode bc_Mo_next 40 = .ok (.iconst 0, 1) := by decide +kernel
theorem dc_Mo_next_41 : decode bc_Mo_next 41 = .ok (.if_icmp .ne (31), 3) := by decide +kernel
theorem dc_Mo_next_44 : decode bc_Mo_next 44 = .ok (.aload_n 0, 1) := by decide +kernel
theorem dc_Mo_next_45 : decode bc_Mo_next 45 = .ok (.getfield 23, 3) := by decide +kernel
theorem dc_Mo_next_48 : decode bc_Mo_next 48 = .ok (.iload_n 2, 1) := by decide +kernel
theorem dc_Mo_next_49 : decode bc_Mo_next 49 = .ok (.iaload, 1) := by decide +kernel
theorem dc_Mo_next_50 : decode bc_Mo_next 50 = .ok (.aload_n 0, 1) := by decide +kernel
theorem dc_Mo_next_51 : decode bc_Mo_next 51 = .ok (.getfield 168, 3) := by decide +kernel
theorem dc_Mo_next_54 : decode bc_Mo_next 54 = .ok (.iand, 1) := by decide +kernel
theorem dc_Mo_next_55 : decode bc_Mo_next 55 = .ok (.ifCond .ne (17), 3) := by decide +kernel
theorem dc_Mo_next_58 : decode bc_Mo_next 58 = .ok (.aload_n 0, 1) := by decide +kernel
theorem dc_Mo_next_59 : decode bc_Mo_next 59 = .ok (.iload_n 2, 1) := by decide +kernel
theorem dc_Mo_next_60 : decode bc_Mo_next 60 = .ok (.invokevirtual 174, 3) := by decide +kernel
theorem dc_Mo_next_63 : decode bc_Mo_next 63 = .ok (.invokestatic 177, 3) := by decide +kernel
theorem dc_Mo_next_66 : decode bc_Mo_next 66 = .ok (.iconst 2, 1) := by decide +kernel
theorem dc_Mo_next_67 : decode bc_Mo_next 67 = .ok (.if_icmp .ge (5), 3) := by decide +kernel
theorem dc_Mo_next_70 : decode bc_Mo_next 70 = .ok (.iload_n 2, 1) := by decide +kernel
theorem dc_Mo_next_71 : decode bc_Mo_next 71 = .ok (.ireturn, 1) := by decide +kernel
theorem dc_Mo_next_72 : decode bc_Mo_next 72 = .ok (.iinc 2 (1), 3) := by decide +kernel
theorem dc_Mo_next_75 : decode bc_Mo_next 75 = .ok (.goto (-66), 3) := by decide +kernel
theorem dc_Mo_next_78 : decode bc_Mo_next 78 = .ok (.iinc 1 (1), 3) := by decide +kernel
theorem dc_Mo_next_81 : decode bc_Mo_next 81 = .ok (.goto (-79), 3) := by decide +kernel
theorem dc_Mo_next_84 : decode bc_Mo_next 84 = .ok (.iconst 0, 1) := by decide +kernel
theorem dc_Mo_next_85 : decode bc_Mo_next 85 = .ok (.ireturn, 1) := by decide +kernel
theorem dc_Mo_propagate_0 : decode bc_Mo_propagate 0 = .ok (.aload_n 0, 1) := by decide +kernel
theorem dc_Mo_propagate_1 : decode bc_Mo_propagate 1 = .ok (.invokevirtual 180, 3) := by decide +kernel
theorem dc_Mo_propagate_4 : decode bc_Mo_propagate 4 = .ok (.istore_n 1, 1) := by decide +kernel
theorem dc_Mo_propagate_5 : decode bc_Mo_propagate 5 = .ok (.iload_n 1, 1) := by decide +kernel
theorem dc_Mo_propagate_6 : decode bc_Mo_propagate 6 = .ok (.ifCond .le (67), 3) := by decide +kernel
theorem dc_Mo_propagate_9 : decode bc_Mo_propagate 9 = .ok (.aload_n 0, 1) := by decide +kernel
theorem dc_Mo_propagate_10 : decode bc_Mo_propagate 10 = .ok (.iload_n 1, 1) := by decide +kernel
theorem dc_Mo_propagate_11 : decode bc_Mo_propagate 11 = .ok (.invokevirtual 174, 3) := by decide +kernel
theorem dc_Mo_propagate_14 : decode bc_Mo_propagate 14 = .ok (.ifCond .eq (59), 3) := by decide +kernel
theorem dc_Mo_propagate_17 : decode bc_Mo_propagate 17 = .ok (.aload_n 0, 1) := by decide +kernel
theorem dc_Mo_propagate_18 : decode bc_Mo_propagate 18 = .ok (.getfield 50, 3) := by decide +kernel
theorem dc_Mo_propagate_21 : decode bc_Mo_propagate 21 = .ok (.aload_n 0, 1) := by decide +kernel
theorem dc_Mo_propagate_22 : decode bc_Mo_propagate 22 = .ok (.getfield 183, 3) := by decide +kernel
theorem dc_Mo_propagate_25 : decode bc_Mo_propagate 25 = .ok (.iload_n 1, 1) := by decide +kernel
theorem dc_Mo_propagate_26 : decode bc_Mo_propagate 26 = .ok (.iastore, 1) := by decide +kernel
theorem dc_Mo_propagate_27 : decode bc_Mo_propagate 27 = .ok (.aload_n 0, 1) := by decide +kernel
theorem dc_Mo_propagate_28 : decode bc_Mo_propagate 28 = .ok (.getfield 53, 3) := by decide +kernel
theorem dc_Mo_propagate_31 : decode bc_Mo_propagate 31 = .ok (.aload_n 0, 1) := by decide +kernel
theorem dc_Mo_propagate_32 : decode bc_Mo_propagate 32 = .ok (.getfield 183, 3) := by decide +kernel
theorem dc_Mo_propagate_35 : decode bc_Mo_propagate 35 = .ok (.aload_n 0, 1) := by decide +kernel
theorem dc_Mo_propagate_36 : decode bc_Mo_propagate 36 = .ok (.iload_n 1, 1) := by decide +kernel
theorem dc_Mo_propagate_37 : decode bc_Mo_propagate 37 = .ok (.invokevirtual 174, 3) := by decide +kernel
theorem dc_Mo_propagate_40 : decode bc_Mo_propagate 40 = .ok (.iastore, 1) := by decide +kernel
theorem dc_Mo_propagate_41 : decode bc_Mo_propagate 41 = .ok (.aload_n 0, 1) := by decide +kernel
theorem dc_Mo_propagate_42 : decode bc_Mo_propagate 42 = .ok (.aload_n 0, 1) := by decide +kernel
theorem dc_Mo_propagate_43 : decode bc_Mo_propagate 43 = .ok (.getfield 168, 3) := by decide +kernel
theorem dc_Mo_propagate_46 : decode bc_Mo_propagate 46 = .ok (.aload_n 0, 1) := by decide +kernel
theorem dc_Mo_propagate_47 : decode bc_Mo_propagate 47 = .ok (.iload_n 1, 1) := by decide +kernel
theorem dc_Mo_propagate_48 : decode bc_Mo_propagate 48 = .ok (.invokevirtual 174, 3) := by decide +kernel
theorem dc_Mo_propagate_51 : decode bc_Mo_propagate 51 = .ok (.ior, 1) := by decide +kernel
theorem dc_Mo_propagate_52 : decode bc_Mo_propagate 52 = .ok (.putfield 168, 3) := by decide +kernel
theorem dc_Mo_propagate_55 : decode bc_Mo_propagate 55 = .ok (.aload_n 0, 1) := by decide +kernel
theorem dc_Mo_propagate_56 : decode bc_Mo_propagate 56 = .ok (.dup, 1) := by decide +kernel
theorem dc_Mo_propagate_57 : decode bc_Mo_propagate 57 = .ok (.getfield 183, 3) := by decide +kernel
theorem dc_Mo_propagate_60 : decode bc_Mo_propagate 60 = .ok (.iconst 1, 1) := by decide +kernel
theorem dc_Mo_propagate_61 : decode bc_Mo_propagate 61 = .ok (.iadd, 1) := by decide +kernel
theorem dc_Mo_propagate_62 : decode bc_Mo_propagate 62 = .ok (.putfield 183, 3) := by decide +kernel
theorem dc_Mo_propagate_65 : decode bc_Mo_propagate 65 = .ok (.aload_n 0, 1) := by decide +kernel
theorem dc_Mo_propagate_66 : decode bc_Mo_propagate 66 = .ok (.invokevirtual 180, 3) := by decide +kernel
theorem dc_Mo_propagate_69 : decode bc_Mo_propagate 69 = .ok (.istore_n 1, 1) := by decide +kernel
theorem dc_Mo_propagate_70 : decode bc_Mo_propagate 70 = .ok (.goto (-65), 3) := by decide +kernel
theorem dc_Mo_propagate_73 : decode bc_Mo_propagate 73 = .ok (.iload_n 1, 1) := by decide +kernel
theorem dc_Mo_propagate_74 : decode bc_Mo_propagate 74 = .ok (.ireturn, 1) := by decide +kernel
set_option maxHeartbeats 4000000 in
set_option maxRecDepth 100000 in
theorem ct_Mo_next (l : Launch) (D : va_G) (cI cZ : ClassId) (sz : Nat) (o : Nat) (mth : Nat) (mty : Nat) (x0 : Nat) (mat : Nat) (mfr : Nat) (mto : Nat) (mgd : Bool) (mrd : Nat) (x1 : Nat) (x2 : Nat) (x3 : Nat) (mhf : Bool) (mhp : Bool) (mcl : Bool) (mck : Bool) (mba : Nat) (mct : Nat) (x4 : Nat) (x5 : Nat) (x6 : Nat) (x7 : Nat) (x8 : Nat) (mst : Nat) (x9 : Nat) (x10 : Nat) (x11 : Nat) (x12 : Nat) (mtr : Nat) (mrs : Nat) (x13 : Nat) (x14 : Nat) (x15 : Nat) (x16 : Nat) (mwr : Nat) (x17 : Nat) (mfo : Nat) (fs : Nat → Nat) (lb : Nat → Bool) (kb : Nat → Bool) (lv : Nat) (mk : Nat) (hct : mct ≤ 32) (ht16 : mtr < 65536) (h16 : ∀ j, fs j < 65536) (hlb : ∀ j, 1 ≤ j → j ≤ mct → lb j = lv.testBit j) (hkb : ∀ j, 1 ≤ j → j ≤ mct → kb j = mk.testBit j) : Met l yn_Mo_next (Cond.code yn_Mo_next bc_Mo_next 3 (some .int) :: kx_all) ({ frames := 2, cells := 0, slots := 0, locals := 41 } : Room) (kp [.ref o] D cI cZ [mo_c o mth mty x0 mat mfr mto mgd mrd x1 x2 x3 mhf mhp mcl mck mba mct x4 x5 x6 x7 x8 mst x9 x10 x11 x12 mtr mrs x13 x14 x15 x16 mwr x17 mfo, ar_n cI x4 33 fs, ar_b cZ x7 33 lb, ar_b cZ x8 33 kb] sz) (kr_q (some (.int (nI (pt_next fs lv mk mct mtr (nb_op mtr)))))) 0 0 (fun _ => False) := by
  refine kx_met (by decide) (Nat.le_of_ble_eq_true rfl) ?_
  intro p e s m below meth c ls hx hb hr hml hts hown hlocks hin hsz hP hK hD hN hl
  have hown : s.vm.findClass rn_Mo = some m.cls := hown
  have hl : lv_has ls 3 [(0, .ref o)] := hl
  refine lv_iconst (v := nI 0) hx hb dc_Mo_next_0 (by decide +kernel) ?_
  refine lv_istore_n (lv' := [(1, .int (nI 0)), (0, .ref o)]) hx hb dc_Mo_next_1 rfl hl (by decide) rfl (fun ls hl => ?_)
  have lp_2 : ∀ (K : Nat) (k : Nat) (ls : Array Slot), 2 - k < K → lv_has ls 3 [(1, .int (nI k)), (0, .ref o)] → (k = 0 ∨ (k = 1 ∧ pt_fr fs mtr (nb_op mtr) (lv &&& mk) mct = 0) ∨ (k = 2 ∧ pt_fr fs mtr (nb_op mtr) (lv &&& mk) mct = 0 ∧ pt_fr fs mtr (nb_op mtr) (nb_d lv mk) mct = 0)) → W p l e ({ frames := 2, cells := 0, slots := 0, locals := 41 } : Room) s m ([.ref o] : List Value).toArray below meth c s.heap [] 0 0 (MQ below (kr_q (some (.int (nI (pt_next fs lv mk mct mtr (nb_op mtr)))))) ([.ref o] : List Value).toArray s 0 0 (fun _ => False)) (F0 m 2 ls []) := by
    intro K
    induction K with
    | zero =>
      intro k ls hk
      exact absurd hk (Nat.not_lt_zero _)
    | succ K ih_2 =>
      intro k ls hk hl h1
      refine lv_iload_n hx hb dc_Mo_next_2 rfl (lv_at hl 0 rfl) ?_
      refine lv_iconst (v := nI 2) hx hb dc_Mo_next_3 (by decide +kernel) ?_
      refine kn_icmp_ge hx hb (by omega) (by omega) dc_Mo_next_4 rfl (fun hc4 => ?_) (fun hc4 => ?_)
      · refine lv_iconst (v := nI 0) hx hb dc_Mo_next_84 (by decide +kernel) ?_
        exact kr_iret hx hb hr hlocks dc_Mo_next_85 (h1.elim (fun q => by omega) (fun h9 => h9.elim (fun q => by omega) (fun q => by rw [pt_next, if_pos q.2.1, q.2.2])))
      · have hk9 : k = 0 ∨ k = 1 := by omega
        rcases hk9 with hk9 | hk9
        · have hk0 : k = 0 := hk9
          subst hk0
          refine lv_iconst (v := nI 1) hx hb dc_Mo_next_7 (by decide +kernel) ?_
          refine lv_istore_n (lv' := [(2, .int (nI 1)), (1, .int (nI 0)), (0, .ref o)]) hx hb dc_Mo_next_8 rfl hl (by decide) rfl (fun ls hl => ?_)
          have lp_9 : ∀ (K : Nat) (i : Nat) (ls : Array Slot), mct + 1 - i < K → lv_has ls 3 [(2, .int (nI i)), (1, .int (nI 0)), (0, .ref o)] → (pt_first (fun j => (lv &&& mk).testBit j && pt_rdy (fs j) mtr (nb_op mtr)) (mct + 1 - i) i = pt_fr fs mtr (nb_op mtr) (lv &&& mk) mct) → (1 ≤ i ∧ i ≤ mct + 1) → W p l e ({ frames := 2, cells := 0, slots := 0, locals := 41 } : Room) s m ([.ref o] : List Value).toArray below meth c s.heap [] 0 0 (MQ below (kr_q (some (.int (nI (pt_next fs lv mk mct mtr (nb_op mtr)))))) ([.ref o] : List Value).toArray s 0 0 (fun _ => False)) (F0 m 9 ls []) := by
            intro K
            induction K with
            | zero =>
              intro i ls hk
              exact absurd hk (Nat.not_lt_zero _)
            | succ K ih_9 =>
              intro i ls hk hl h3 h4
              refine lv_iload_n hx hb dc_Mo_next_9 rfl (lv_at hl 0 rfl) ?_
              refine lv_aload_n hx hb dc_Mo_next_10 rfl (lv_at hl 2 rfl) ?_
              refine va_get (ci := 10) (v := .int (nI mct)) (C := rn_Mo) (T := fd_Mo) (N := 36) hx hb hts in_Mo hown hK hP 0 rfl rfl 16 (by decide) (hts _ wd_762) (fun _ h9 => h9) rfl dc_Mo_next_11 ?_
              refine kn_icmp_gt hx hb (by omega) (by omega) dc_Mo_next_14 rfl (fun hc14 => ?_) (fun hc14 => ?_)
              · refine lv_iinc (k := 1) (v := nI (0 + 1)) (lv' := [(1, .int (nI (0 + 1))), (2, .int (nI i)), (0, .ref o)]) hx hb dc_Mo_next_78 hl rfl (nI_1 _) (by decide) rfl (fun ls hl => ?_)
                refine lv_goto hx hb dc_Mo_next_81 rfl ?_
                have hl := lv_sub (l' := [(1, .int (nI (0 + 1))), (0, .ref o)]) hl [0, 2] rfl
                exact ih_2 _ _ (by omega) hl (Or.inr (Or.inl ⟨rfl, by rw [← h3, first_en (by omega)]⟩))
              · refine lv_aload_n hx hb dc_Mo_next_17 rfl (lv_at hl 2 rfl) ?_
                refine va_get (ci := 10) (v := .ref x7) (C := rn_Mo) (T := fd_Mo) (N := 36) hx hb hts in_Mo hown hK hP 0 rfl rfl 20 (by decide) (hts _ wd_766) (fun _ h9 => h9) rfl dc_Mo_next_18 ?_
                refine lv_iload_n hx hb dc_Mo_next_21 rfl (lv_at hl 0 rfl) ?_
                refine ka_bald (t := lb) hx hb hK hP 2 1 rfl rfl (j := i) (by omega) (by omega) dc_Mo_next_22 ?_
                refine kb_if_eq hx hb dc_Mo_next_23 rfl (fun hc23 => ?_) (fun hc23 => ?_)
                · refine lv_iinc (k := 0) (v := nI (i + 1)) (lv' := [(2, .int (nI (i + 1))), (1, .int (nI 0)), (0, .ref o)]) hx hb dc_Mo_next_72 hl rfl (nI_1 _) (by decide) rfl (fun ls hl => ?_)
                  refine lv_goto hx hb dc_Mo_next_75 rfl ?_
                  exact ih_9 _ _ (by omega) hl (by rw [← h3]; exact (first_no (by omega) (by rw [Nat.testBit_and, ← hlb i (by omega) (by omega), ← hkb i (by omega) (by omega)]; rw [hc23]; rfl)).symm) (⟨by omega, by omega⟩)
                · refine lv_aload_n hx hb dc_Mo_next_26 rfl (lv_at hl 2 rfl) ?_
                  refine va_get (ci := 10) (v := .ref x8) (C := rn_Mo) (T := fd_Mo) (N := 36) hx hb hts in_Mo hown hK hP 0 rfl rfl 21 (by decide) (hts _ wd_767) (fun _ h9 => h9) rfl dc_Mo_next_27 ?_
                  refine lv_iload_n hx hb dc_Mo_next_30 rfl (lv_at hl 0 rfl) ?_
                  refine ka_bald (t := kb) hx hb hK hP 3 1 rfl rfl (j := i) (by omega) (by omega) dc_Mo_next_31 ?_
                  refine lv_iload_n hx hb dc_Mo_next_32 rfl (lv_at hl 1 rfl) ?_
                  refine kn_if_ne hx hb (by omega) dc_Mo_next_33 rfl (fun hc33 => ?_) (fun hc33 => ?_)
                  · exact absurd rfl hc33
                  · refine lv_iconst (v := nI 1) hx hb dc_Mo_next_36 (by decide +kernel) ?_
                    refine kn_top (y := kb_i true) (by decide +kernel) ?_
                    refine lv_goto hx hb dc_Mo_next_37 rfl ?_
                    refine kb_icmp_ne hx hb dc_Mo_next_41 rfl (fun hc41 => ?_) (fun hc41 => ?_)
                    · refine lv_iinc (k := 0) (v := nI (i + 1)) (lv' := [(2, .int (nI (i + 1))), (1, .int (nI 0)), (0, .ref o)]) hx hb dc_Mo_next_72 hl rfl (nI_1 _) (by decide) rfl (fun ls hl => ?_)
                      refine lv_goto hx hb dc_Mo_next_75 rfl ?_
                      exact ih_9 _ _ (by omega) hl (by rw [← h3]; exact (first_no (by omega) (by rw [Nat.testBit_and, ← hlb i (by omega) (by omega), ← hkb i (by omega) (by omega)]; cases hz : kb i <;> simp_all)).symm) (⟨by omega, by omega⟩)
                    · refine lv_aload_n hx hb dc_Mo_next_44 rfl (lv_at hl 2 rfl) ?_
                      refine va_get (ci := 10) (v := .ref x4) (C := rn_Mo) (T := fd_Mo) (N := 36) hx hb hts in_Mo hown hK hP 0 rfl rfl 17 (by decide) (hts _ wd_763) (fun _ h9 => h9) rfl dc_Mo_next_45 ?_
                      refine lv_iload_n hx hb dc_Mo_next_48 rfl (lv_at hl 0 rfl) ?_
                      refine ka_nald (t := fs) hx hb hK hP 1 0 rfl rfl (j := i) (by omega) (by omega) dc_Mo_next_49 ?_
                      refine lv_aload_n hx hb dc_Mo_next_50 rfl (lv_at hl 2 rfl) ?_
                      refine va_get (ci := 10) (v := .int (nI mtr)) (C := rn_Mo) (T := fd_Mo) (N := 36) hx hb hts in_Mo hown hK hP 0 rfl rfl 27 (by decide) (hts _ wd_773) (fun _ h9 => h9) rfl dc_Mo_next_51 ?_
                      refine kn_iand hx hb dc_Mo_next_54 ?_
                      refine kn_if_ne hx hb (Nat.lt_of_le_of_lt Nat.and_le_left (Nat.lt_trans (h16 i) (by decide))) dc_Mo_next_55 rfl (fun hc55 => ?_) (fun hc55 => ?_)
                      · refine lv_iinc (k := 0) (v := nI (i + 1)) (lv' := [(2, .int (nI (i + 1))), (1, .int (nI 0)), (0, .ref o)]) hx hb dc_Mo_next_72 hl rfl (nI_1 _) (by decide) rfl (fun ls hl => ?_)
                        refine lv_goto hx hb dc_Mo_next_75 rfl ?_
                        exact ih_9 _ _ (by omega) hl (by rw [← h3]; exact (first_no (by omega) (by rw [rdy_ref (h16 i), decide_eq_false hc55]; simp)).symm) (⟨by omega, by omega⟩)
                      · refine lv_aload_n hx hb dc_Mo_next_58 rfl (lv_at hl 2 rfl) ?_
                        refine lv_iload_n hx hb dc_Mo_next_59 rfl (lv_at hl 0 rfl) ?_
                        refine kr_call1 (va_runV (As := [.int (nI i)]) (rest := []) ⟨hx, hb, hml, hown, hts⟩ (ct_Mo_open l D cI cZ _ o mth mty x0 mat mfr mto mgd mrd x1 x2 x3 mhf mhp mcl mck mba mct x4 x5 x6 x7 x8 mst x9 x10 x11 x12 mtr mrs x13 x14 x15 x16 mwr x17 mfo fs i (ht16) (by omega)) (cwV 1 hts (kx_gV wd_957 wd_959 (kx_sel (q := (yn_Mo_open, 36)) (List.mem_append_right _ (List.mem_append_left _ (List.mem_of_getElem? (i := 13) rfl)))) wd_9 wd_960) rfl rfl rfl ⟨rfl, yd_Mo_open⟩ ⟨Nat.le_of_ble_eq_true rfl, Nat.le_of_ble_eq_true rfl⟩) (kp_V (q0 := 0) (ci := 10) hP hD hK hN [0, 1] rfl rfl rfl rfl rfl) rfl rfl hl.1 rfl (lv_room (Nat.le_of_ble_eq_true rfl)) dc_Mo_next_60 ⟨Nat.le_of_ble_eq_true rfl, Nat.le_of_ble_eq_true rfl⟩) ?_
                        refine kr_call1 (va_runS (As := [.int (nI (nb_d (fs i) (mtr ||| nb_op mtr)))]) (rest := []) ⟨hx, hb, hml, hown, hts⟩ (ct_Mo_bits l D cI cZ _ (nb_d (fs i) (mtr ||| nb_op mtr)) (nb_d_lt (n := 16) (h16 i))) (cwS 1 hts (kx_gS wd_961 wd_962 wd_9 wd_963) rfl rfl rfl ⟨rfl, yd_Mo_bits⟩ ⟨Nat.le_of_ble_eq_true rfl, Nat.le_of_ble_eq_true rfl⟩) (kp_S hP hD hK hN [] rfl rfl) rfl rfl hl.1 rfl (lv_room (Nat.le_of_ble_eq_true rfl)) dc_Mo_next_63 ⟨Nat.le_of_ble_eq_true rfl, Nat.le_of_ble_eq_true rfl⟩) ?_
                        refine lv_iconst (v := nI 2) hx hb dc_Mo_next_66 (by decide +kernel) ?_
                        refine kn_icmp_ge hx hb (Nat.lt_of_le_of_lt (bits_le _ 16) (by decide)) (by omega) dc_Mo_next_67 rfl (fun hc67 => ?_) (fun hc67 => ?_)
                        · refine lv_iinc (k := 0) (v := nI (i + 1)) (lv' := [(2, .int (nI (i + 1))), (1, .int (nI 0)), (0, .ref o)]) hx hb dc_Mo_next_72 hl rfl (nI_1 _) (by decide) rfl (fun ls hl => ?_)
                          refine lv_goto hx hb dc_Mo_next_75 rfl ?_
                          exact ih_9 _ _ (by omega) hl (by rw [← h3]; exact (first_no (by omega) (by rw [rdy_ref (h16 i), decide_eq_false (show ¬ pt_bits (nb_d (fs i) (mtr ||| nb_op mtr)) 16 < 2 by omega)]; simp)).symm) (⟨by omega, by omega⟩)
                        · refine lv_iload_n hx hb dc_Mo_next_70 rfl (lv_at hl 0 rfl) ?_
                          exact kr_iret hx hb hr hlocks dc_Mo_next_71 (by rw [pt_next, if_neg (by rw [← h3, first_yes (by omega) (by rw [Nat.testBit_and, ← hlb i (by omega) (by omega), ← hkb i (by omega) (by omega)]; rw [rdy_ref (h16 i), decide_eq_true hc55, decide_eq_true hc67, hc23, hc41]; rfl)]; omega)]; exact congrArg nI (by rw [← h3, first_yes (by omega) (by rw [Nat.testBit_and, ← hlb i (by omega) (by omega), ← hkb i (by omega) (by omega)]; rw [rdy_ref (h16 i), decide_eq_true hc55, decide_eq_true hc67, hc23, hc41]; rfl)]))
          exact lp_9 _ _ _ (Nat.lt_succ_self _) hl (rfl) (⟨by omega, by omega⟩)
        · have hk0 : k = 1 := hk9
          subst hk0
          have hF0 : pt_fr fs mtr (nb_op mtr) (lv &&& mk) mct = 0 := h1.elim (fun q => absurd q (by decide)) (fun h9 => h9.elim (fun q => q.2) (fun q => absurd q.1 (by decide)))
          refine lv_iconst (v := nI 1) hx hb dc_Mo_next_7 (by decide +kernel) ?_
          refine lv_istore_n (lv' := [(2, .int (nI 1)), (1, .int (nI 1)), (0, .ref o)]) hx hb dc_Mo_next_8 rfl hl (by decide) rfl (fun ls hl => ?_)
          have lp_9 : ∀ (K : Nat) (i : Nat) (ls : Array Slot), mct + 1 - i < K → lv_has ls 3 [(2, .int (nI i)), (1, .int (nI 1)), (0, .ref o)] → (pt_first (fun j => (nb_d lv mk).testBit j && pt_rdy (fs j) mtr (nb_op mtr)) (mct + 1 - i) i = pt_fr fs mtr (nb_op mtr) (nb_d lv mk) mct) → (1 ≤ i ∧ i ≤ mct + 1) → W p l e ({ frames := 2, cells := 0, slots := 0, locals := 41 } : Room) s m ([.ref o] : List Value).toArray below meth c s.heap [] 0 0 (MQ below (kr_q (some (.int (nI (pt_next fs lv mk mct mtr (nb_op mtr)))))) ([.ref o] : List Value).toArray s 0 0 (fun _ => False)) (F0 m 9 ls []) := by
            intro K
            induction K with
            | zero =>
              intro i ls hk
              exact absurd hk (Nat.not_lt_zero _)
            | succ K ih_9 =>
              intro i ls hk hl h3 h4
              refine lv_iload_n hx hb dc_Mo_next_9 rfl (lv_at hl 0 rfl) ?_
              refine lv_aload_n hx hb dc_Mo_next_10 rfl (lv_at hl 2 rfl) ?_
              refine va_get (ci := 10) (v := .int (nI mct)) (C := rn_Mo) (T := fd_Mo) (N := 36) hx hb hts in_Mo hown hK hP 0 rfl rfl 16 (by decide) (hts _ wd_762) (fun _ h9 => h9) rfl dc_Mo_next_11 ?_
              refine kn_icmp_gt hx hb (by omega) (by omega) dc_Mo_next_14 rfl (fun hc14 => ?_) (fun hc14 => ?_)
              · refine lv_iinc (k := 1) (v := nI (1 + 1)) (lv' := [(1, .int (nI (1 + 1))), (2, .int (nI i)), (0, .ref o)]) hx hb dc_Mo_next_78 hl rfl (nI_1 _) (by decide) rfl (fun ls hl => ?_)
                refine lv_goto hx hb dc_Mo_next_81 rfl ?_
                have hl := lv_sub (l' := [(1, .int (nI (1 + 1))), (0, .ref o)]) hl [0, 2] rfl
                exact ih_2 _ _ (by omega) hl (Or.inr (Or.inr ⟨rfl, hF0, by rw [← h3, first_en (by omega)]⟩))
              · refine lv_aload_n hx hb dc_Mo_next_17 rfl (lv_at hl 2 rfl) ?_
                refine va_get (ci := 10) (v := .ref x7) (C := rn_Mo) (T := fd_Mo) (N := 36) hx hb hts in_Mo hown hK hP 0 rfl rfl 20 (by decide) (hts _ wd_766) (fun _ h9 => h9) rfl dc_Mo_next_18 ?_
                refine lv_iload_n hx hb dc_Mo_next_21 rfl (lv_at hl 0 rfl) ?_
                refine ka_bald (t := lb) hx hb hK hP 2 1 rfl rfl (j := i) (by omega) (by omega) dc_Mo_next_22 ?_
                refine kb_if_eq hx hb dc_Mo_next_23 rfl (fun hc23 => ?_) (fun hc23 => ?_)
                · refine lv_iinc (k := 0) (v := nI (i + 1)) (lv' := [(2, .int (nI (i + 1))), (1, .int (nI 1)), (0, .ref o)]) hx hb dc_Mo_next_72 hl rfl (nI_1 _) (by decide) rfl (fun ls hl => ?_)
                  refine lv_goto hx hb dc_Mo_next_75 rfl ?_
                  exact ih_9 _ _ (by omega) hl (by rw [← h3]; exact (first_no (by omega) (by rw [nb_d_bit, ← hlb i (by omega) (by omega), ← hkb i (by omega) (by omega)]; rw [hc23]; rfl)).symm) (⟨by omega, by omega⟩)
                · refine lv_aload_n hx hb dc_Mo_next_26 rfl (lv_at hl 2 rfl) ?_
                  refine va_get (ci := 10) (v := .ref x8) (C := rn_Mo) (T := fd_Mo) (N := 36) hx hb hts in_Mo hown hK hP 0 rfl rfl 21 (by decide) (hts _ wd_767) (fun _ h9 => h9) rfl dc_Mo_next_27 ?_
                  refine lv_iload_n hx hb dc_Mo_next_30 rfl (lv_at hl 0 rfl) ?_
                  refine ka_bald (t := kb) hx hb hK hP 3 1 rfl rfl (j := i) (by omega) (by omega) dc_Mo_next_31 ?_
                  refine lv_iload_n hx hb dc_Mo_next_32 rfl (lv_at hl 1 rfl) ?_
                  refine kn_if_ne hx hb (by omega) dc_Mo_next_33 rfl (fun hc33 => ?_) (fun hc33 => ?_)
                  · refine lv_iconst (v := nI 0) hx hb dc_Mo_next_40 (by decide +kernel) ?_
                    refine kn_top (y := kb_i false) (by decide +kernel) ?_
                    refine kb_icmp_ne hx hb dc_Mo_next_41 rfl (fun hc41 => ?_) (fun hc41 => ?_)
                    · refine lv_iinc (k := 0) (v := nI (i + 1)) (lv' := [(2, .int (nI (i + 1))), (1, .int (nI 1)), (0, .ref o)]) hx hb dc_Mo_next_72 hl rfl (nI_1 _) (by decide) rfl (fun ls hl => ?_)
                      refine lv_goto hx hb dc_Mo_next_75 rfl ?_
                      exact ih_9 _ _ (by omega) hl (by rw [← h3]; exact (first_no (by omega) (by rw [nb_d_bit, ← hlb i (by omega) (by omega), ← hkb i (by omega) (by omega)]; cases hz : kb i <;> simp_all)).symm) (⟨by omega, by omega⟩)
                    · refine lv_aload_n hx hb dc_Mo_next_44 rfl (lv_at hl 2 rfl) ?_
                      refine va_get (ci := 10) (v := .ref x4) (C := rn_Mo) (T := fd_Mo) (N := 36) hx hb hts in_Mo hown hK hP 0 rfl rfl 17 (by decide) (hts _ wd_763) (fun _ h9 => h9) rfl dc_Mo_next_45 ?_
                      refine lv_iload_n hx hb dc_Mo_next_48 rfl (lv_at hl 0 rfl) ?_
                      refine ka_nald (t := fs) hx hb hK hP 1 0 rfl rfl (j := i) (by omega) (by omega) dc_Mo_next_49 ?_
                      refine lv_aload_n hx hb dc_Mo_next_50 rfl (lv_at hl 2 rfl) ?_
                      refine va_get (ci := 10) (v := .int (nI mtr)) (C := rn_Mo) (T := fd_Mo) (N := 36) hx hb hts in_Mo hown hK hP 0 rfl rfl 27 (by decide) (hts _ wd_773) (fun _ h9 => h9) rfl dc_Mo_next_51 ?_
                      refine kn_iand hx hb dc_Mo_next_54 ?_
                      refine kn_if_ne hx hb (Nat.lt_of_le_of_lt Nat.and_le_left (Nat.lt_trans (h16 i) (by decide))) dc_Mo_next_55 rfl (fun hc55 => ?_) (fun hc55 => ?_)
                      · refine lv_iinc (k := 0) (v := nI (i + 1)) (lv' := [(2, .int (nI (i + 1))), (1, .int (nI 1)), (0, .ref o)]) hx hb dc_Mo_next_72 hl rfl (nI_1 _) (by decide) rfl (fun ls hl => ?_)
                        refine lv_goto hx hb dc_Mo_next_75 rfl ?_
                        exact ih_9 _ _ (by omega) hl (by rw [← h3]; exact (first_no (by omega) (by rw [rdy_ref (h16 i), decide_eq_false hc55]; simp)).symm) (⟨by omega, by omega⟩)
                      · refine lv_aload_n hx hb dc_Mo_next_58 rfl (lv_at hl 2 rfl) ?_
                        refine lv_iload_n hx hb dc_Mo_next_59 rfl (lv_at hl 0 rfl) ?_
                        refine kr_call1 (va_runV (As := [.int (nI i)]) (rest := []) ⟨hx, hb, hml, hown, hts⟩ (ct_Mo_open l D cI cZ _ o mth mty x0 mat mfr mto mgd mrd x1 x2 x3 mhf mhp mcl mck mba mct x4 x5 x6 x7 x8 mst x9 x10 x11 x12 mtr mrs x13 x14 x15 x16 mwr x17 mfo fs i (ht16) (by omega)) (cwV 1 hts (kx_gV wd_957 wd_959 (kx_sel (q := (yn_Mo_open, 36)) (List.mem_append_right _ (List.mem_append_left _ (List.mem_of_getElem? (i := 13) rfl)))) wd_9 wd_960) rfl rfl rfl ⟨rfl, yd_Mo_open⟩ ⟨Nat.le_of_ble_eq_true rfl, Nat.le_of_ble_eq_true rfl⟩) (kp_V (q0 := 0) (ci := 10) hP hD hK hN [0, 1] rfl rfl rfl rfl rfl) rfl rfl hl.1 rfl (lv_room (Nat.le_of_ble_eq_true rfl)) dc_Mo_next_60 ⟨Nat.le_of_ble_eq_true rfl, Nat.le_of_ble_eq_true rfl⟩) ?_
                        refine kr_call1 (va_runS (As := [.int (nI (nb_d (fs i) (mtr ||| nb_op mtr)))]) (rest := []) ⟨hx, hb, hml, hown, hts⟩ (ct_Mo_bits l D cI cZ _ (nb_d (fs i) (mtr ||| nb_op mtr)) (nb_d_lt (n := 16) (h16 i))) (cwS 1 hts (kx_gS wd_961 wd_962 wd_9 wd_963) rfl rfl rfl ⟨rfl, yd_Mo_bits⟩ ⟨Nat.le_of_ble_eq_true rfl, Nat.le_of_ble_eq_true rfl⟩) (kp_S hP hD hK hN [] rfl rfl) rfl rfl hl.1 rfl (lv_room (Nat.le_of_ble_eq_true rfl)) dc_Mo_next_63 ⟨Nat.le_of_ble_eq_true rfl, Nat.le_of_ble_eq_true rfl⟩) ?_
                        refine lv_iconst (v := nI 2) hx hb dc_Mo_next_66 (by decide +kernel) ?_
                        refine kn_icmp_ge hx hb (Nat.lt_of_le_of_lt (bits_le _ 16) (by decide)) (by omega) dc_Mo_next_67 rfl (fun hc67 => ?_) (fun hc67 => ?_)
                        · refine lv_iinc (k := 0) (v := nI (i + 1)) (lv' := [(2, .int (nI (i + 1))), (1, .int (nI 1)), (0, .ref o)]) hx hb dc_Mo_next_72 hl rfl (nI_1 _) (by decide) rfl (fun ls hl => ?_)
                          refine lv_goto hx hb dc_Mo_next_75 rfl ?_
                          exact ih_9 _ _ (by omega) hl (by rw [← h3]; exact (first_no (by omega) (by rw [rdy_ref (h16 i), decide_eq_false (show ¬ pt_bits (nb_d (fs i) (mtr ||| nb_op mtr)) 16 < 2 by omega)]; simp)).symm) (⟨by omega, by omega⟩)
                        · refine lv_iload_n hx hb dc_Mo_next_70 rfl (lv_at hl 0 rfl) ?_
                          exact kr_iret hx hb hr hlocks dc_Mo_next_71 (by rw [pt_next, if_pos hF0]; exact congrArg nI (by rw [← h3, first_yes (by omega) (by rw [nb_d_bit, ← hlb i (by omega) (by omega), ← hkb i (by omega) (by omega)]; rw [rdy_ref (h16 i), decide_eq_true hc55, decide_eq_true hc67, hc23, hc41]; rfl)]))
                  · exact absurd hc33 (by decide)
          exact lp_9 _ _ _ (Nat.lt_succ_self _) hl (rfl) (⟨by omega, by omega⟩)
  exact lp_2 _ _ _ (Nat.lt_succ_self _) hl (Or.inl rfl)

theorem cap_free {n t f x : Nat} (h : pt_cap n t f) (hx : x < 65536) (hr : pt_rdy x t f = true) (h0 : ¬ nb_d x f = 0) : pt_free (t ||| nb_d x f) < pt_free t := by
  obtain ⟨ht, hf, -⟩ := h
  have h1 := cap_step (n := 8 - pt_free t) (t := t) (f := f) ⟨ht, hf, by have := free_le t; omega⟩ hx hr h0
  have h2 := h1.2.2.2.2
  have h3 := free_le t
  omega

set_option maxHeartbeats 4000000 in
set_option maxRecDepth 100000 in
theorem ct_Mo_propagate (l : Launch) (D : va_G) (cI cZ : ClassId) (sz : Nat) (o : Nat) (mth : Nat) (mty : Nat) (x0 : Nat) (mat : Nat) (mfr : Nat) (mto : Nat) (mgd : Bool) (mrd : Nat) (x1 : Nat) (x2 : Nat) (x3 : Nat) (mhf : Bool) (mhp : Bool) (mcl : Bool) (mck : Bool) (mba : Nat) (mct : Nat) (x4 : Nat) (x5 : Nat) (x6 : Nat) (x7 : Nat) (x8 : Nat) (mst : Nat) (x9 : Nat) (x10 : Nat) (x11 : Nat) (x12 : Nat) (mtr : Nat) (mrs : Nat) (x13 : Nat) (x14 : Nat) (x15 : Nat) (x16 : Nat) (mwr : Nat) (x17 : Nat) (mfo : Nat) (fs : Nat → Nat) (lb : Nat → Bool) (kb : Nat → Bool) (rs : Nat → Nat) (im : Nat → Nat) (lv : Nat) (mk : Nat) (hct : mct ≤ 32) (h16 : ∀ j, fs j < 65536) (hlb : ∀ j, 1 ≤ j → j ≤ mct → lb j = lv.testBit j) (hkb : ∀ j, 1 ≤ j → j ≤ mct → kb j = mk.testBit j) (hcap : pt_cap mrs mtr (nb_op mtr)) : Met l yn_Mo_propagate (Cond.code yn_Mo_propagate bc_Mo_propagate 2 (some .int) :: kx_all) ({ frames := 3, cells := 0, slots := 0, locals := 63 } : Room) (kp [.ref o] D cI cZ [mo_c o mth mty x0 mat mfr mto mgd mrd x1 x2 x3 mhf mhp mcl mck mba mct x4 x5 x6 x7 x8 mst x9 x10 x11 x12 mtr mrs x13 x14 x15 x16 mwr x17 mfo, ar_n cI x4 33 fs, ar_b cZ x7 33 lb, ar_b cZ x8 33 kb, ar_n cI x13 8 rs, ar_n cI x14 8 im] sz) (kw_q (some (.int (nI ((pt_prop fs lv mk mct 9 mrs mtr (nb_op mtr) rs im).1)))) D kc_l [mo_c o mth mty x0 mat mfr mto mgd mrd x1 x2 x3 mhf mhp mcl mck mba mct x4 x5 x6 x7 x8 mst x9 x10 x11 x12 ((pt_prop fs lv mk mct 9 mrs mtr (nb_op mtr) rs im).2.2.1) ((pt_prop fs lv mk mct 9 mrs mtr (nb_op mtr) rs im).2.1) x13 x14 x15 x16 mwr x17 mfo, ar_n cI x4 33 fs, ar_b cZ x7 33 lb, ar_b cZ x8 33 kb, ar_n cI x13 8 ((pt_prop fs lv mk mct 9 mrs mtr (nb_op mtr) rs im).2.2.2.2.1), ar_n cI x14 8 ((pt_prop fs lv mk mct 9 mrs mtr (nb_op mtr) rs im).2.2.2.2.2)] (va_A [mo_c o mth mty x0 mat mfr mto mgd mrd x1 x2 x3 mhf mhp mcl mck mba mct x4 x5 x6 x7 x8 mst x9 x10 x11 x12 mtr mrs x13 x14 x15 x16 mwr x17 mfo, ar_n cI x4 33 fs, ar_b cZ x7 33 lb, ar_b cZ x8 33 kb, ar_n cI x13 8 rs, ar_n cI x14 8 im] sz)) 0 0 (va_A [mo_c o mth mty x0 mat mfr mto mgd mrd x1 x2 x3 mhf mhp mcl mck mba mct x4 x5 x6 x7 x8 mst x9 x10 x11 x12 mtr mrs x13 x14 x15 x16 mwr x17 mfo, ar_n cI x4 33 fs, ar_b cZ x7 33 lb, ar_b cZ x8 33 kb, ar_n cI x13 8 rs, ar_n cI x14 8 im] sz) := by
  refine kx_metW (by decide) (Nat.le_of_ble_eq_true rfl) ?_
  intro p e s m below meth c ls A hx hb hr hml hts hown hlocks hin hA hP hK hD hN hl hS
  have hown : s.vm.findClass rn_Mo = some m.cls := hown
  have hl : lv_has ls 2 [(0, .ref o)] := hl
  refine lv_aload_n hx hb dc_Mo_propagate_0 rfl (lv_at hl 0 rfl) ?_
  refine kr_call1 (va_runV (As := []) (rest := []) ⟨hx, hb, hml, hown, hts⟩ (ct_Mo_next l D cI cZ _ o mth mty x0 mat mfr mto mgd mrd x1 x2 x3 mhf mhp mcl mck mba mct x4 x5 x6 x7 x8 mst x9 x10 x11 x12 mtr mrs x13 x14 x15 x16 mwr x17 mfo fs lb kb lv mk (hct) (hcap.1) (h16) (hlb) (hkb)) (cwV 0 hts (kx_gV wd_953 wd_955 (kx_sel (q := (yn_Mo_next, 36)) (List.mem_append_right _ (List.mem_append_left _ (List.mem_of_getElem? (i := 12) rfl)))) wd_9 wd_956) rfl rfl rfl ⟨rfl, yd_Mo_next⟩ ⟨Nat.le_of_ble_eq_true rfl, Nat.le_of_ble_eq_true rfl⟩) (kp_V (q0 := 0) (ci := 10) hP hD hK hN [0, 1, 2, 3] rfl rfl rfl rfl rfl) rfl rfl hl.1 rfl (lv_room (Nat.le_of_ble_eq_true rfl)) dc_Mo_propagate_1 ⟨Nat.le_of_ble_eq_true rfl, Nat.le_of_ble_eq_true rfl⟩) ?_
  refine lv_istore_n (lv' := [(1, .int (nI (pt_next fs lv mk mct mtr (nb_op mtr)))), (0, .ref o)]) hx hb dc_Mo_propagate_4 rfl hl (by decide) rfl (fun ls hl => ?_)
  have lp_5 : ∀ (K : Nat) (k : Nat) (n1 : Nat) (t1 : Nat) (rs1 : Nat → Nat) (im1 : Nat → Nat) (H : Heap) (locs : List Loc) (ls : Array Slot), pt_free t1 < K → va_P D kc_l [mo_c o mth mty x0 mat mfr mto mgd mrd x1 x2 x3 mhf mhp mcl mck mba mct x4 x5 x6 x7 x8 mst x9 x10 x11 x12 t1 n1 x13 x14 x15 x16 mwr x17 mfo, ar_n cI x4 33 fs, ar_b cZ x7 33 lb, ar_b cZ x8 33 kb, ar_n cI x13 8 rs1, ar_n cI x14 8 im1] H → va_D A [mo_c o mth mty x0 mat mfr mto mgd mrd x1 x2 x3 mhf mhp mcl mck mba mct x4 x5 x6 x7 x8 mst x9 x10 x11 x12 t1 n1 x13 x14 x15 x16 mwr x17 mfo, ar_n cI x4 33 fs, ar_b cZ x7 33 lb, ar_b cZ x8 33 kb, ar_n cI x13 8 rs1, ar_n cI x14 8 im1] → va_S A s.heap H locs → lv_has ls 2 [(1, .int (nI (pt_next fs lv mk mct t1 (nb_op t1)))), (0, .ref o)] → (pt_prop fs lv mk mct (9 - k) n1 t1 (nb_op t1) rs1 im1 = pt_prop fs lv mk mct 9 mrs mtr (nb_op mtr) rs im) → (n1 = mrs + k) → (pt_cap n1 t1 (nb_op t1)) → W p l e ({ frames := 3, cells := 0, slots := 0, locals := 63 } : Room) s m ([.ref o] : List Value).toArray below meth c H locs 0 0 (MQ below (kw_q (some (.int (nI ((pt_prop fs lv mk mct 9 mrs mtr (nb_op mtr) rs im).1)))) D kc_l [mo_c o mth mty x0 mat mfr mto mgd mrd x1 x2 x3 mhf mhp mcl mck mba mct x4 x5 x6 x7 x8 mst x9 x10 x11 x12 ((pt_prop fs lv mk mct 9 mrs mtr (nb_op mtr) rs im).2.2.1) ((pt_prop fs lv mk mct 9 mrs mtr (nb_op mtr) rs im).2.1) x13 x14 x15 x16 mwr x17 mfo, ar_n cI x4 33 fs, ar_b cZ x7 33 lb, ar_b cZ x8 33 kb, ar_n cI x13 8 ((pt_prop fs lv mk mct 9 mrs mtr (nb_op mtr) rs im).2.2.2.2.1), ar_n cI x14 8 ((pt_prop fs lv mk mct 9 mrs mtr (nb_op mtr) rs im).2.2.2.2.2)] A) ([.ref o] : List Value).toArray s 0 0 A) (F0 m 5 ls []) := by
    intro K
    induction K with
    | zero =>
      intro k n1 t1 rs1 im1 H locs ls hk
      exact absurd hk (Nat.not_lt_zero _)
    | succ K ih_5 =>
      intro k n1 t1 rs1 im1 H locs ls hk hP hD hS hl h1 h2 h3
      have hni := next_in fs lv mk mct t1 (nb_op t1)
      generalize hce : pt_next fs lv mk mct t1 (nb_op t1) = ce at hl hni
      have hk9 : k ≤ 8 := by have := h3.2.2; omega
      have hst : pt_prop fs lv mk mct (9 - k) n1 t1 (nb_op t1) rs1 im1 = (if ce = 0 then (0, n1, t1, nb_op t1, rs1, im1) else if nb_d (fs ce) (nb_op t1) = 0 then (ce, n1, t1, nb_op t1, rs1, im1) else pt_prop fs lv mk mct (9 - (k + 1)) (n1 + 1) (t1 ||| nb_d (fs ce) (nb_op t1)) (nb_op t1 ||| nb_op (nb_d (fs ce) (nb_op t1))) (va_up rs1 n1 ce) (va_up im1 n1 (nb_d (fs ce) (nb_op t1)))) := by
        rw [show 9 - k = (9 - (k + 1)) + 1 by omega, pt_prop, hce]
      refine lv_iload_n hx hb dc_Mo_propagate_5 rfl (lv_at hl 0 rfl) ?_
      refine lv_if_le hx hb dc_Mo_propagate_6 rfl (fun hc6 => ?_) (fun hc6 => ?_)
      · have hce0 : ce = 0 := by
          rcases Nat.eq_zero_or_pos ce with q | q
          · exact q
          · obtain ⟨-, hce2, -⟩ := hni.resolve_left (by omega); exact absurd hc6 (nI_nle q (by omega))
        refine lv_iload_n hx hb dc_Mo_propagate_73 rfl (lv_at hl 0 rfl) ?_
        exact kw_iret hx hb hr hlocks hP hD hS dc_Mo_propagate_74 (by rw [← h1, hst, if_pos hce0, hce0]) (by rw [← h1, hst, if_pos hce0])
      · have hce0 : ¬ ce = 0 := fun q => hc6 (by rw [q]; decide +kernel)
        obtain ⟨hce1, hce2, hce3, hce4⟩ := hni.resolve_left hce0
        have hrd : fs ce &&& t1 = 0 := by
          unfold pt_rdy at hce4
          rw [Bool.and_eq_true] at hce4
          exact of_decide_eq_true hce4.1
        refine lv_aload_n hx hb dc_Mo_propagate_9 rfl (lv_at hl 1 rfl) ?_
        refine lv_iload_n hx hb dc_Mo_propagate_10 rfl (lv_at hl 0 rfl) ?_
        refine kr_call1 (va_runV (As := [.int (nI ce)]) (rest := []) ⟨hx, hb, hml, hown, hts⟩ (ct_Mo_open l D cI cZ _ o mth mty x0 mat mfr mto mgd mrd x1 x2 x3 mhf mhp mcl mck mba mct x4 x5 x6 x7 x8 mst x9 x10 x11 x12 t1 n1 x13 x14 x15 x16 mwr x17 mfo fs ce (h3.1) (by omega)) (cwV 1 hts (kx_gV wd_957 wd_959 (kx_sel (q := (yn_Mo_open, 36)) (List.mem_append_right _ (List.mem_append_left _ (List.mem_of_getElem? (i := 13) rfl)))) wd_9 wd_960) rfl rfl rfl ⟨rfl, yd_Mo_open⟩ ⟨Nat.le_of_ble_eq_true rfl, Nat.le_of_ble_eq_true rfl⟩) (kp_V (q0 := 0) (ci := 10) hP hD hK hN [0, 1] rfl rfl rfl rfl rfl) rfl rfl hl.1 rfl (lv_room (Nat.le_of_ble_eq_true rfl)) dc_Mo_propagate_11 ⟨Nat.le_of_ble_eq_true rfl, Nat.le_of_ble_eq_true rfl⟩) ?_
        refine kn_top (y := nI (nb_d (fs ce) (nb_op t1))) (congrArg nI (d_or hrd)) ?_
        refine kn_if_eq hx hb (Nat.lt_trans (nb_d_lt (n := 16) (h16 ce)) (by decide)) dc_Mo_propagate_14 rfl (fun hc14 => ?_) (fun hc14 => ?_)
        · refine lv_iload_n hx hb dc_Mo_propagate_73 rfl (lv_at hl 0 rfl) ?_
          exact kw_iret hx hb hr hlocks hP hD hS dc_Mo_propagate_74 (by rw [← h1, hst, if_neg hce0, if_pos hc14]) (by rw [← h1, hst, if_neg hce0, if_pos hc14])
        · obtain ⟨hn8, hy16, hcap9⟩ := cap_step h3 (h16 ce) hce4 hc14
          have hcap2 : pt_cap (n1 + 1) (t1 ||| nb_d (fs ce) (nb_op t1)) (nb_op (t1 ||| nb_d (fs ce) (nb_op t1))) := by rw [op_or h3.1 hy16]; exact hcap9
          have hfr : pt_free (t1 ||| nb_d (fs ce) (nb_op t1)) < pt_free t1 := cap_free h3 (h16 ce) hce4 hc14
          refine lv_aload_n hx hb dc_Mo_propagate_17 rfl (lv_at hl 1 rfl) ?_
          refine va_get (ci := 10) (v := .ref x13) (C := rn_Mo) (T := fd_Mo) (N := 36) hx hb hts in_Mo hown hK hP 0 rfl rfl 29 (by decide) (hts _ wd_775) (fun _ h9 => h9) rfl dc_Mo_propagate_18 ?_
          refine lv_aload_n hx hb dc_Mo_propagate_21 rfl (lv_at hl 1 rfl) ?_
          refine va_get (ci := 10) (v := .int (nI n1)) (C := rn_Mo) (T := fd_Mo) (N := 36) hx hb hts in_Mo hown hK hP 0 rfl rfl 28 (by decide) (hts _ wd_774) (fun _ h9 => h9) rfl dc_Mo_propagate_22 ?_
          refine lv_iload_n hx hb dc_Mo_propagate_25 rfl (lv_at hl 0 rfl) ?_
          refine ka_nast (t := rs1) hx hb hK hP hD hS 4 0 rfl rfl (j := n1) (by omega) (by omega) dc_Mo_propagate_26 (ws' := [mo_c o mth mty x0 mat mfr mto mgd mrd x1 x2 x3 mhf mhp mcl mck mba mct x4 x5 x6 x7 x8 mst x9 x10 x11 x12 t1 n1 x13 x14 x15 x16 mwr x17 mfo, ar_n cI x4 33 fs, ar_b cZ x7 33 lb, ar_b cZ x8 33 kb, ar_n cI x13 8 (va_up rs1 n1 ce), ar_n cI x14 8 im1]) rfl (fun H locs hP hD hS => ?_)
          refine lv_aload_n hx hb dc_Mo_propagate_27 rfl (lv_at hl 1 rfl) ?_
          refine va_get (ci := 10) (v := .ref x14) (C := rn_Mo) (T := fd_Mo) (N := 36) hx hb hts in_Mo hown hK hP 0 rfl rfl 30 (by decide) (hts _ wd_776) (fun _ h9 => h9) rfl dc_Mo_propagate_28 ?_
          refine lv_aload_n hx hb dc_Mo_propagate_31 rfl (lv_at hl 1 rfl) ?_
          refine va_get (ci := 10) (v := .int (nI n1)) (C := rn_Mo) (T := fd_Mo) (N := 36) hx hb hts in_Mo hown hK hP 0 rfl rfl 28 (by decide) (hts _ wd_774) (fun _ h9 => h9) rfl dc_Mo_propagate_32 ?_
          refine lv_aload_n hx hb dc_Mo_propagate_35 rfl (lv_at hl 1 rfl) ?_
          refine lv_iload_n hx hb dc_Mo_propagate_36 rfl (lv_at hl 0 rfl) ?_
          refine kr_call1 (va_runV (As := [.int (nI ce)]) (rest := [.int (nI n1), .ref x14]) ⟨hx, hb, hml, hown, hts⟩ (ct_Mo_open l D cI cZ _ o mth mty x0 mat mfr mto mgd mrd x1 x2 x3 mhf mhp mcl mck mba mct x4 x5 x6 x7 x8 mst x9 x10 x11 x12 t1 n1 x13 x14 x15 x16 mwr x17 mfo fs ce (h3.1) (by omega)) (cwV 1 hts (kx_gV wd_957 wd_959 (kx_sel (q := (yn_Mo_open, 36)) (List.mem_append_right _ (List.mem_append_left _ (List.mem_of_getElem? (i := 13) rfl)))) wd_9 wd_960) rfl rfl rfl ⟨rfl, yd_Mo_open⟩ ⟨Nat.le_of_ble_eq_true rfl, Nat.le_of_ble_eq_true rfl⟩) (kp_V (q0 := 0) (ci := 10) hP hD hK hN [0, 1] rfl rfl rfl rfl rfl) rfl rfl hl.1 rfl (lv_room (Nat.le_of_ble_eq_true rfl)) dc_Mo_propagate_37 ⟨Nat.le_of_ble_eq_true rfl, Nat.le_of_ble_eq_true rfl⟩) ?_
          refine kn_top (y := nI (nb_d (fs ce) (nb_op t1))) (congrArg nI (d_or hrd)) ?_
          refine ka_nast (t := im1) hx hb hK hP hD hS 5 0 rfl rfl (j := n1) (by omega) (by omega) dc_Mo_propagate_40 (ws' := [mo_c o mth mty x0 mat mfr mto mgd mrd x1 x2 x3 mhf mhp mcl mck mba mct x4 x5 x6 x7 x8 mst x9 x10 x11 x12 t1 n1 x13 x14 x15 x16 mwr x17 mfo, ar_n cI x4 33 fs, ar_b cZ x7 33 lb, ar_b cZ x8 33 kb, ar_n cI x13 8 (va_up rs1 n1 ce), ar_n cI x14 8 (va_up im1 n1 (nb_d (fs ce) (nb_op t1)))]) rfl (fun H locs hP hD hS => ?_)
          refine lv_aload_n hx hb dc_Mo_propagate_41 rfl (lv_at hl 1 rfl) ?_
          refine lv_aload_n hx hb dc_Mo_propagate_42 rfl (lv_at hl 1 rfl) ?_
          refine va_get (ci := 10) (v := .int (nI t1)) (C := rn_Mo) (T := fd_Mo) (N := 36) hx hb hts in_Mo hown hK hP 0 rfl rfl 27 (by decide) (hts _ wd_773) (fun _ h9 => h9) rfl dc_Mo_propagate_43 ?_
          refine lv_aload_n hx hb dc_Mo_propagate_46 rfl (lv_at hl 1 rfl) ?_
          refine lv_iload_n hx hb dc_Mo_propagate_47 rfl (lv_at hl 0 rfl) ?_
          refine kr_call1 (va_runV (As := [.int (nI ce)]) (rest := [.int (nI t1), .ref o]) ⟨hx, hb, hml, hown, hts⟩ (ct_Mo_open l D cI cZ _ o mth mty x0 mat mfr mto mgd mrd x1 x2 x3 mhf mhp mcl mck mba mct x4 x5 x6 x7 x8 mst x9 x10 x11 x12 t1 n1 x13 x14 x15 x16 mwr x17 mfo fs ce (h3.1) (by omega)) (cwV 1 hts (kx_gV wd_957 wd_959 (kx_sel (q := (yn_Mo_open, 36)) (List.mem_append_right _ (List.mem_append_left _ (List.mem_of_getElem? (i := 13) rfl)))) wd_9 wd_960) rfl rfl rfl ⟨rfl, yd_Mo_open⟩ ⟨Nat.le_of_ble_eq_true rfl, Nat.le_of_ble_eq_true rfl⟩) (kp_V (q0 := 0) (ci := 10) hP hD hK hN [0, 1] rfl rfl rfl rfl rfl) rfl rfl hl.1 rfl (lv_room (Nat.le_of_ble_eq_true rfl)) dc_Mo_propagate_48 ⟨Nat.le_of_ble_eq_true rfl, Nat.le_of_ble_eq_true rfl⟩) ?_
          refine kn_top (y := nI (nb_d (fs ce) (nb_op t1))) (congrArg nI (d_or hrd)) ?_
          refine kn_ior hx hb dc_Mo_propagate_51 ?_
          refine va_put (ci := 10) (v := .int (nI (t1 ||| (nb_d (fs ce) (nb_op t1))))) (ty := .int) (C := rn_Mo) (T := fd_Mo) (N := 36) hx hb hts in_Mo ty_Mo tk_Mo nm_Mo hown hK hP hD hS 0 rfl rfl 27 (by decide) (hts _ wd_773) (fun _ h9 => h9) rfl (by decide +kernel) rfl rfl (Nat.le_of_ble_eq_true rfl) dc_Mo_propagate_52 (fun H locs hP hD hS => ?_)
          have hP : va_P D kc_l [mo_c o mth mty x0 mat mfr mto mgd mrd x1 x2 x3 mhf mhp mcl mck mba mct x4 x5 x6 x7 x8 mst x9 x10 x11 x12 (t1 ||| (nb_d (fs ce) (nb_op t1))) n1 x13 x14 x15 x16 mwr x17 mfo, ar_n cI x4 33 fs, ar_b cZ x7 33 lb, ar_b cZ x8 33 kb, ar_n cI x13 8 (va_up rs1 n1 ce), ar_n cI x14 8 (va_up im1 n1 (nb_d (fs ce) (nb_op t1)))] H := hP
          have hD : va_D A [mo_c o mth mty x0 mat mfr mto mgd mrd x1 x2 x3 mhf mhp mcl mck mba mct x4 x5 x6 x7 x8 mst x9 x10 x11 x12 (t1 ||| (nb_d (fs ce) (nb_op t1))) n1 x13 x14 x15 x16 mwr x17 mfo, ar_n cI x4 33 fs, ar_b cZ x7 33 lb, ar_b cZ x8 33 kb, ar_n cI x13 8 (va_up rs1 n1 ce), ar_n cI x14 8 (va_up im1 n1 (nb_d (fs ce) (nb_op t1)))] := hD
          refine lv_aload_n hx hb dc_Mo_propagate_55 rfl (lv_at hl 1 rfl) ?_
          refine lv_dup hx hb dc_Mo_propagate_56 rfl ?_
          refine va_get (ci := 10) (v := .int (nI n1)) (C := rn_Mo) (T := fd_Mo) (N := 36) hx hb hts in_Mo hown hK hP 0 rfl rfl 28 (by decide) (hts _ wd_774) (fun _ h9 => h9) rfl dc_Mo_propagate_57 ?_
          refine lv_iconst (v := nI 1) hx hb dc_Mo_propagate_60 (by decide +kernel) ?_
          refine kn_iadd hx hb dc_Mo_propagate_61 ?_
          refine va_put (ci := 10) (v := .int (nI (n1 + 1))) (ty := .int) (C := rn_Mo) (T := fd_Mo) (N := 36) hx hb hts in_Mo ty_Mo tk_Mo nm_Mo hown hK hP hD hS 0 rfl rfl 28 (by decide) (hts _ wd_774) (fun _ h9 => h9) rfl (by decide +kernel) rfl rfl (Nat.le_of_ble_eq_true rfl) dc_Mo_propagate_62 (fun H locs hP hD hS => ?_)
          have hP : va_P D kc_l [mo_c o mth mty x0 mat mfr mto mgd mrd x1 x2 x3 mhf mhp mcl mck mba mct x4 x5 x6 x7 x8 mst x9 x10 x11 x12 (t1 ||| (nb_d (fs ce) (nb_op t1))) (n1 + 1) x13 x14 x15 x16 mwr x17 mfo, ar_n cI x4 33 fs, ar_b cZ x7 33 lb, ar_b cZ x8 33 kb, ar_n cI x13 8 (va_up rs1 n1 ce), ar_n cI x14 8 (va_up im1 n1 (nb_d (fs ce) (nb_op t1)))] H := hP
          have hD : va_D A [mo_c o mth mty x0 mat mfr mto mgd mrd x1 x2 x3 mhf mhp mcl mck mba mct x4 x5 x6 x7 x8 mst x9 x10 x11 x12 (t1 ||| (nb_d (fs ce) (nb_op t1))) (n1 + 1) x13 x14 x15 x16 mwr x17 mfo, ar_n cI x4 33 fs, ar_b cZ x7 33 lb, ar_b cZ x8 33 kb, ar_n cI x13 8 (va_up rs1 n1 ce), ar_n cI x14 8 (va_up im1 n1 (nb_d (fs ce) (nb_op t1)))] := hD
          refine lv_aload_n hx hb dc_Mo_propagate_65 rfl (lv_at hl 1 rfl) ?_
          refine kr_call1 (va_runV (As := []) (rest := []) ⟨hx, hb, hml, hown, hts⟩ (ct_Mo_next l D cI cZ _ o mth mty x0 mat mfr mto mgd mrd x1 x2 x3 mhf mhp mcl mck mba mct x4 x5 x6 x7 x8 mst x9 x10 x11 x12 (t1 ||| (nb_d (fs ce) (nb_op t1))) (n1 + 1) x13 x14 x15 x16 mwr x17 mfo fs lb kb lv mk (hct) (hcap2.1) (h16) (hlb) (hkb)) (cwV 0 hts (kx_gV wd_953 wd_955 (kx_sel (q := (yn_Mo_next, 36)) (List.mem_append_right _ (List.mem_append_left _ (List.mem_of_getElem? (i := 12) rfl)))) wd_9 wd_956) rfl rfl rfl ⟨rfl, yd_Mo_next⟩ ⟨Nat.le_of_ble_eq_true rfl, Nat.le_of_ble_eq_true rfl⟩) (kp_V (q0 := 0) (ci := 10) hP hD hK hN [0, 1, 2, 3] rfl rfl rfl rfl rfl) rfl rfl hl.1 rfl (lv_room (Nat.le_of_ble_eq_true rfl)) dc_Mo_propagate_66 ⟨Nat.le_of_ble_eq_true rfl, Nat.le_of_ble_eq_true rfl⟩) ?_
          refine lv_istore_n (lv' := [(1, .int (nI (pt_next fs lv mk mct (t1 ||| (nb_d (fs ce) (nb_op t1))) (nb_op (t1 ||| (nb_d (fs ce) (nb_op t1))))))), (0, .ref o)]) hx hb dc_Mo_propagate_69 rfl hl (by decide) rfl (fun ls hl => ?_)
          refine lv_goto hx hb dc_Mo_propagate_70 rfl ?_
          exact ih_5 _ _ _ _ _ _ _ _ (by omega) hP hD hS hl (by rw [← h1, hst, if_neg hce0, if_neg hc14, op_or h3.1 hy16]) (by omega) (hcap2)
  exact lp_5 _ 0 mrs mtr rs im _ _ _ (Nat.lt_succ_self _) hP hD hS hl (rfl) (rfl) (hcap)
