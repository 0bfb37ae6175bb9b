/-! a clause is tried; all are, from the last to the first -/
theorem op_op {x : Nat} (h : x < 65536) : nb_op (nb_op x) = x := by
  apply Nat.eq_of_testBit_eq
  intro i
  rw [nb_op_bit (nb_op_lt h)]
  by_cases h8 : i < 8
  · rw [if_pos h8, nb_op_bit h, if_neg (by omega), if_pos (by omega), show i + 8 - 8 = i by omega]
  · rw [if_neg h8]
    by_cases h16 : i < 16
    · rw [if_pos h16, nb_op_bit h, if_pos (by omega), show i - 8 + 8 = i by omega]
    · rw [if_neg h16]
      exact (Nat.testBit_lt_two_pow (Nat.lt_of_lt_of_le (show x < 2 ^ 16 from h) (Nat.pow_le_pow_right (show 0 < 2 by decide) (by omega)))).symm
theorem free_le (t : Nat) : pt_free t ≤ 8 := by
  have h := free_mono 0 t
  rw [Nat.zero_or] at h
  exact h
/-- a try: right or not, the marks, the hints, the assignment -/
def pt_right (fs : Nat → Nat) (lv mk cn w pb x : Nat) (rs im : Nat → Nat) : Bool × Nat × List Int32 × Nat × Nat × Nat × (Nat → Nat) × (Nat → Nat) :=
  let R := pt_prop fs lv mk cn 9 0 (nb_op x) (nb_op (nb_op x)) rs im
  if R.1 = 0 then
    if w = 0 then (false, mk, [], R.2)
    else
      let Z := pt_sp fs lv mk cn (2 ^ pb) R.2.2.1 R.2.1 cn 1 (pt_ru R.2.2.2.2.1 R.2.1) (pt_rl R.2.2.2.2.1 R.2.1) R.2.1 R.2.2.1 R.2.2.2.1 R.2.2.2.2.1 R.2.2.2.2.2
      (Z.1, if Z.1 = true then mk ||| Z.2.1 else mk, Z.2.2)
  else (true, mk ||| pt_used fs R.2.2.2.2.1 R.2.2.2.2.2 R.2.1 (2 ^ R.1) (fs R.1), pt_exs R.2.2.2.2.1 (pt_used fs R.2.2.2.2.1 R.2.2.2.2.2 R.2.1 (2 ^ R.1) (fs R.1)) 0 (R.2.1 - 0) ++ [nI R.1], R.2)
abbrev pt_S : Type := Nat × Nat × Nat × (Nat → Nat) × (Nat → Nat) × (Nat → Int32) × Nat × Nat × Nat × (Nat → Nat) × (Nat → Nat)
/-- going back over k steps: the wrong step or 0; live, marks, how many hints in all, starts, counts, hints, the assignment -/
def pt_gb (fs fz pb : Nat → Nat) (cn : Nat) (dl : Nat → Bool) (nu : Nat → Nat) : Nat → Nat → Nat → Nat → (Nat → Nat) → (Nat → Nat) → (Nat → Int32) → Nat → Nat → Nat → (Nat → Nat) → (Nat → Nat) → Nat × pt_S
  | 0, lv, ma, g, ft, fc, fr, n, t, f, rs, im => (0, lv, ma, g, ft, fc, fr, n, t, f, rs, im)
  | k + 1, lv, ma, g, ft, fc, fr, n, t, f, rs, im =>
    if dl (k + 1) = true then pt_gb fs fz pb cn dl nu k (lv ||| 2 ^ nu (k + 1)) ma g ft fc fr n t f rs im
    else if ma.testBit (nu (k + 1)) = false then pt_gb fs fz pb cn dl nu k (nb_d lv (2 ^ nu (k + 1))) ma g ft fc fr n t f rs im
    else
      let Z := pt_right fs (nb_d lv (2 ^ nu (k + 1))) ma cn (fz (nu (k + 1))) (pb (nu (k + 1))) (fs (nu (k + 1))) rs im
      if Z.1 = true then pt_gb fs fz pb cn dl nu k (nb_d lv (2 ^ nu (k + 1))) Z.2.1 (g + Z.2.2.1.length) (va_up ft (nu (k + 1)) g) (va_up fc (nu (k + 1)) (fc (nu (k + 1)) + Z.2.2.1.length)) (pt_put fr g Z.2.2.1) Z.2.2.2.1 Z.2.2.2.2.1 Z.2.2.2.2.2.1 Z.2.2.2.2.2.2.1 Z.2.2.2.2.2.2.2
      else (k + 1, nb_d lv (2 ^ nu (k + 1)), Z.2.1, g + Z.2.2.1.length, va_up ft (nu (k + 1)) g, va_up fc (nu (k + 1)) (fc (nu (k + 1)) + Z.2.2.1.length), pt_put fr g Z.2.2.1, Z.2.2.2.1, Z.2.2.2.2.1, Z.2.2.2.2.2.1, Z.2.2.2.2.2.2.1, Z.2.2.2.2.2.2.2)
theorem gb_len {fs fz pb : Nat → Nat} {cn : Nat} {dl : Nat → Bool} {nu : Nat → Nat} : ∀ (k lv mk g : Nat) (ft fc : Nat → Nat) (fr : Nat → Int32) (n t f : Nat) (rs im : Nat → Nat), g ≤ (pt_gb fs fz pb cn dl nu k lv mk g ft fc fr n t f rs im).2.2.2.1 := by
  intro k
  induction k with
  | zero => intro lv mk g ft fc fr n t f rs im; exact Nat.le_refl _
  | succ k ih =>
    intro lv mk g ft fc fr n t f rs im
    rw [pt_gb]
    split
    · exact ih _ _ _ _ _ _ _ _ _ _ _
    · split
      · exact ih _ _ _ _ _ _ _ _ _ _ _
      · dsimp only
        split
        · exact Nat.le_trans (Nat.le_add_right _ _) (ih _ _ _ _ _ _ _ _ _ _ _)
        · exact Nat.le_add_right _ _
theorem live_lt {dl : Nat → Bool} {nu : Nat → Nat} (h : ∀ i, nu i ≤ 32) : ∀ (k i lv : Nat), lv < 2 ^ 33 → pt_live dl nu k i lv < 2 ^ 33 := by
  intro k
  induction k with
  | zero => intro i lv hl; exact hl
  | succ k ih =>
    intro i lv hl
    rw [pt_live]
    refine ih _ _ ?_
    split
    · exact nb_d_lt hl
    · exact Nat.or_lt_two_pow hl (Nat.pow_lt_pow_right (by decide) (by have := h i; omega))

theorem dc_Ck_isRight_0 : decode bc_Ck_isRight 0 = .ok (.aload_n 0, 1) := by decide +kernel
theorem dc_Ck_isRight_1 : decode bc_Ck_isRight 1 = .ok (.getfield 19, 3) := by decide +kernel
theorem dc_Ck_isRight_4 : decode bc_Ck_isRight 4 = .ok (.iload_n 1, 1) := by decide +kernel
theorem dc_Ck_isRight_5 : decode bc_Ck_isRight 5 = .ok (.invokevirtual 70, 3) := by decide +kernel
theorem dc_Ck_isRight_8 : decode bc_Ck_isRight 8 = .ok (.aload_n 0, 1) := by decide +kernel
theorem dc_Ck_isRight_9 : decode bc_Ck_isRight 9 = .ok (.getfield 23, 3) := by decide +kernel
theorem dc_Ck_isRight_12 : decode bc_Ck_isRight 12 = .ok (.aload_n 0, 1) := by decide +kernel
theorem dc_Ck_isRight_13 : decode bc_Ck_isRight 13 = .ok (.getfield 9, 3) := by decide +kernel
theorem dc_Ck_isRight_16 : decode bc_Ck_isRight 16 = .ok (.getfield 74, 3) := by decide +kernel
theorem dc_Ck_isRight_19 : decode bc_Ck_isRight 19 = .ok (.iload_n 1, 1) := by decide +kernel
theorem dc_Ck_isRight_20 : decode bc_Ck_isRight 20 = .ok (.iaload, 1) := by decide +kernel
theorem dc_Ck_isRight_21 : decode bc_Ck_isRight 21 = .ok (.invokestatic 77, 3) := by decide +kernel
theorem dc_Ck_isRight_24 : decode bc_Ck_isRight 24 = .ok (.iconst 0, 1) := by decide +kernel
theorem dc_Ck_isRight_25 : decode bc_Ck_isRight 25 = .ok (.invokevirtual 81, 3) := by decide +kernel
theorem dc_Ck_isRight_28 : decode bc_Ck_isRight 28 = .ok (.aload_n 0, 1) := by decide +kernel
theorem dc_Ck_isRight_29 : decode bc_Ck_isRight 29 = .ok (.invokevirtual 87, 3) := by decide +kernel
theorem dc_Ck_isRight_32 : decode bc_Ck_isRight 32 = .ok (.istore_n 2, 1) := by decide +kernel
theorem dc_Ck_isRight_33 : decode bc_Ck_isRight 33 = .ok (.iload_n 2, 1) := by decide +kernel
theorem dc_Ck_isRight_34 : decode bc_Ck_isRight 34 = .ok (.ifCond .eq (24), 3) := by decide +kernel
theorem dc_Ck_isRight_37 : decode bc_Ck_isRight 37 = .ok (.aload_n 0, 1) := by decide +kernel
theorem dc_Ck_isRight_38 : decode bc_Ck_isRight 38 = .ok (.getfield 19, 3) := by decide +kernel
theorem dc_Ck_isRight_41 : decode bc_Ck_isRight 41 = .ok (.dup, 1) := by decide +kernel
theorem dc_Ck_isRight_42 : decode bc_Ck_isRight 42 = .ok (.getfield 46, 3) := by decide +kernel
theorem dc_Ck_isRight_45 : decode bc_Ck_isRight 45 = .ok (.aload_n 0, 1) := by decide +kernel
theorem dc_Ck_isRight_46 : decode bc_Ck_isRight 46 = .ok (.iload_n 1, 1) := by decide +kernel
theorem dc_Ck_isRight_47 : decode bc_Ck_isRight 47 = .ok (.iconst 0, 1) := by decide +kernel
theorem dc_Ck_isRight_48 : decode bc_Ck_isRight 48 = .ok (.iload_n 2, 1) := by decide +kernel
theorem dc_Ck_isRight_49 : decode bc_Ck_isRight 49 = .ok (.invokevirtual 91, 3) := by decide +kernel
theorem dc_Ck_isRight_52 : decode bc_Ck_isRight 52 = .ok (.lor, 1) := by decide +kernel
theorem dc_Ck_isRight_53 : decode bc_Ck_isRight 53 = .ok (.putfield 46, 3) := by decide +kernel
theorem dc_Ck_isRight_56 : decode bc_Ck_isRight 56 = .ok (.iconst 1, 1) := by decide +kernel
theorem dc_Ck_isRight_57 : decode bc_Ck_isRight 57 = .ok (.ireturn, 1) := by decide +kernel
theorem dc_Ck_isRight_58 : decode bc_Ck_isRight 58 = .ok (.aload_n 0, 1) := by decide +kernel
theorem dc_Ck_isRight_59 : decode bc_Ck_isRight 59 = .ok (.getfield 9, 3) := by decide +kernel
theorem dc_Ck_isRight_62 : decode bc_Ck_isRight 62 = .ok (.getfield 95, 3) := by decide +kernel
theorem dc_Ck_isRight_65 : decode bc_Ck_isRight 65 = .ok (.iload_n 1, 1) := by decide +kernel
theorem dc_Ck_isRight_66 : decode bc_Ck_isRight 66 = .ok (.iaload, 1) := by decide +kernel
theorem dc_Ck_isRight_67 : decode bc_Ck_isRight 67 = .ok (.ifCond .eq (15), 3) := by decide +kernel
theorem dc_Ck_isRight_70 : decode bc_Ck_isRight 70 = .ok (.aload_n 0, 1) := by decide +kernel
theorem dc_Ck_isRight_71 : decode bc_Ck_isRight 71 = .ok (.iload_n 1, 1) := by decide +kernel
theorem dc_Ck_isRight_72 : decode bc_Ck_isRight 72 = .ok (.invokevirtual 98, 3) := by decide +kernel
theorem dc_Ck_isRight_75 : decode bc_Ck_isRight 75 = .ok (.ifCond .eq (7), 3) := by decide +kernel
theorem dc_Ck_isRight_78 : decode bc_Ck_isRight 78 = .ok (.iconst 1, 1) := by decide +kernel
theorem dc_Ck_isRight_79 : decode bc_Ck_isRight 79 = .ok (.goto (4), 3) := by decide +kernel
theorem dc_Ck_isRight_82 : decode bc_Ck_isRight 82 = .ok (.iconst 0, 1) := by decide +kernel
theorem dc_Ck_isRight_83 : decode bc_Ck_isRight 83 = .ok (.ireturn, 1) := by decide +kernel
theorem dc_Ck_goBack_0 : decode bc_Ck_goBack 0 = .ok (.aload_n 0, 1) := by decide +kernel
theorem dc_Ck_goBack_1 : decode bc_Ck_goBack 1 = .ok (.aload_n 0, 1) := by decide +kernel
theorem dc_Ck_goBack_2 : decode bc_Ck_goBack 2 = .ok (.getfield 15, 3) := by decide +kernel
theorem dc_Ck_goBack_5 : decode bc_Ck_goBack 5 = .ok (.iload_n 1, 1) := by decide +kernel
theorem dc_Ck_goBack_6 : decode bc_Ck_goBack 6 = .ok (.invokevirtual 27, 3) := by decide +kernel
theorem dc_Ck_goBack_9 : decode bc_Ck_goBack 9 = .ok (.putfield 33, 3) := by decide +kernel
theorem dc_Ck_goBack_12 : decode bc_Ck_goBack 12 = .ok (.aload_n 0, 1) := by decide +kernel
theorem dc_Ck_goBack_13 : decode bc_Ck_goBack 13 = .ok (.getfield 19, 3) := by decide +kernel
theorem dc_Ck_goBack_16 : decode bc_Ck_goBack 16 = .ok (.aload_n 0, 1) := by decide +kernel
theorem dc_Ck_goBack_17 : decode bc_Ck_goBack 17 = .ok (.getfield 9, 3) := by decide +kernel
theorem dc_Ck_goBack_20 : decode bc_Ck_goBack 20 = .ok (.getfield 37, 3) := by decide +kernel
theorem dc_Ck_goBack_23 : decode bc_Ck_goBack 23 = .ok (.invokestatic 43, 3) := by decide +kernel
theorem dc_Ck_goBack_26 : decode bc_Ck_goBack 26 = .ok (.putfield 46, 3) := by decide +kernel
theorem dc_Ck_goBack_29 : decode bc_Ck_goBack 29 = .ok (.aload_n 0, 1) := by decide +kernel
theorem dc_Ck_goBack_30 : decode bc_Ck_goBack 30 = .ok (.getfield 15, 3) := by decide +kernel
theorem dc_Ck_goBack_33 : decode bc_Ck_goBack 33 = .ok (.getfield 51, 3) := by decide +kernel
theorem dc_Ck_goBack_36 : decode bc_Ck_goBack 36 = .ok (.istore_n 2, 1) := by decide +kernel
theorem dc_Ck_goBack_37 : decode bc_Ck_goBack 37 = .ok (.iload_n 2, 1) := by decide +kernel
theorem dc_Ck_goBack_38 : decode bc_Ck_goBack 38 = .ok (.iconst 1, 1) := by decide +kernel
theorem dc_Ck_goBack_39 : decode bc_Ck_goBack 39 = .ok (.if_icmp .lt (88), 3) := by decide +kernel
theorem dc_Ck_goBack_42 : decode bc_Ck_goBack 42 = .ok (.aload_n 0, 1) := by decide +kernel
theorem dc_Ck_goBack_43 : decode bc_Ck_goBack 43 = .ok (.getfield 15, 3) := by decide +kernel
theorem dc_Ck_goBack_46 : decode bc_Ck_goBack 46 = .ok (.getfield 52, 3) := by decide +kernel
theorem dc_Ck_goBack_49 : decode bc_Ck_goBack 49 = .ok (.iload_n 2, 1) := by decide +kernel
theorem dc_Ck_goBack_50 : decode bc_Ck_goBack 50 = .ok (.iaload, 1) := by decide +kernel
theorem dc_Ck_goBack_51 : decode bc_Ck_goBack 51 = .ok (.istore_n 3, 1) := by decide +kernel
theorem dc_Ck_goBack_52 : decode bc_Ck_goBack 52 = .ok (.aload_n 0, 1) := by decide +kernel
theorem dc_Ck_goBack_53 : decode bc_Ck_goBack 53 = .ok (.getfield 15, 3) := by decide +kernel
theorem dc_Ck_goBack_56 : decode bc_Ck_goBack 56 = .ok (.getfield 56, 3) := by decide +kernel
theorem dc_Ck_goBack_59 : decode bc_Ck_goBack 59 = .ok (.iload_n 2, 1) := by decide +kernel
theorem dc_Ck_goBack_60 : decode bc_Ck_goBack 60 = .ok (.baload, 1) := by decide +kernel
theorem dc_Ck_goBack_61 : decode bc_Ck_goBack 61 = .ok (.ifCond .eq (19), 3) := by decide +kernel
theorem dc_Ck_goBack_64 : decode bc_Ck_goBack 64 = .ok (.aload_n 0, 1) := by decide +kernel
theorem dc_Ck_goBack_65 : decode bc_Ck_goBack 65 = .ok (.dup, 1) := by decide +kernel
theorem dc_Ck_goBack_66 : decode bc_Ck_goBack 66 = .ok (.getfield 33, 3) := by decide +kernel
theorem dc_Ck_goBack_69 : decode bc_Ck_goBack 69 = .ok (.iload_n 3, 1) := by decide +kernel
theorem dc_Ck_goBack_70 : decode bc_Ck_goBack 70 = .ok (.invokestatic 43, 3) := by decide +kernel
theorem dc_Ck_goBack_73 : decode bc_Ck_goBack 73 = .ok (.lor, 1) := by decide +kernel
theorem dc_Ck_goBack_74 : decode bc_Ck_goBack 74 = .ok (.putfield 33, 3) := by decide +kernel
theorem dc_Ck_goBack_77 : decode bc_Ck_goBack 77 = .ok (.goto (44), 3) := by decide +kernel
theorem dc_Ck_goBack_80 : decode bc_Ck_goBack 80 = .ok (.aload_n 0, 1) := by decide +kernel
theorem dc_Ck_goBack_81 : decode bc_Ck_goBack 81 = .ok (.dup, 1) := by decide +kernel
theorem dc_Ck_goBack_82 : decode bc_Ck_goBack 82 = .ok (.getfield 33, 3) := by decide +kernel
theorem dc_Ck_goBack_85 : decode bc_Ck_goBack 85 = .ok (.iload_n 3, 1) := by decide +kernel
theorem dc_Ck_goBack_86 : decode bc_Ck_goBack 86 = .ok (.invokestatic 43, 3) := by decide +kernel
theorem dc_Ck_goBack_89 : decode bc_Ck_goBack 89 = .ok (.ldc2_w 60, 3) := by decide +kernel
theorem dc_Ck_goBack_92 : decode bc_Ck_goBack 92 = .ok (.lxor, 1) := by decide +kernel
theorem dc_Ck_goBack_93 : decode bc_Ck_goBack 93 = .ok (.land, 1) := by decide +kernel
theorem dc_Ck_goBack_94 : decode bc_Ck_goBack 94 = .ok (.putfield 33, 3) := by decide +kernel
theorem dc_Ck_goBack_97 : decode bc_Ck_goBack 97 = .ok (.aload_n 0, 1) := by decide +kernel
theorem dc_Ck_goBack_98 : decode bc_Ck_goBack 98 = .ok (.getfield 19, 3) := by decide +kernel
theorem dc_Ck_goBack_101 : decode bc_Ck_goBack 101 = .ok (.getfield 46, 3) := by decide +kernel
theorem dc_Ck_goBack_104 : decode bc_Ck_goBack 104 = .ok (.iload_n 3, 1) := by decide +kernel
theorem dc_Ck_goBack_105 : decode bc_Ck_goBack 105 = .ok (.invokestatic 62, 3) := by decide +kernel
theorem dc_Ck_goBack_108 : decode bc_Ck_goBack 108 = .ok (.ifCond .eq (13), 3) := by decide +kernel
theorem dc_Ck_goBack_111 : decode bc_Ck_goBack 111 = .ok (.aload_n 0, 1) := by decide +kernel
theorem dc_Ck_goBack_112 : decode bc_Ck_goBack 112 = .ok (.iload_n 3, 1) := by decide +kernel
theorem dc_Ck_goBack_113 : decode bc_Ck_goBack 113 = .ok (.invokevirtual 66, 3) := by decide +kernel
theorem dc_Ck_goBack_116 : decode bc_Ck_goBack 116 = .ok (.ifCond .ne (5), 3) := by decide +kernel
theorem dc_Ck_goBack_119 : decode bc_Ck_goBack 119 = .ok (.iload_n 2, 1) := by decide +kernel
theorem dc_Ck_goBack_120 : decode bc_Ck_goBack 120 = .ok (.ireturn, 1) := by decide +kernel
theorem dc_Ck_goBack_121 : decode bc_Ck_goBack 121 = .ok (.iinc 2 (-1), 3) := by decide +kernel
theorem dc_Ck_goBack_124 : decode bc_Ck_goBack 124 = .ok (.goto (-87), 3) := by decide +kernel
theorem dc_Ck_goBack_127 : decode bc_Ck_goBack 127 = .ok (.iconst 0, 1) := by decide +kernel
theorem dc_Ck_goBack_128 : decode bc_Ck_goBack 128 = .ok (.ireturn, 1) := by decide +kernel
theorem dc_Ck_init_0 : decode bc_Ck_init 0 = .ok (.aload_n 0, 1) := by decide +kernel
theorem dc_Ck_init_1 : decode bc_Ck_init 1 = .ok (.invokespecial 3, 3) := by decide +kernel
theorem dc_Ck_init_4 : decode bc_Ck_init 4 = .ok (.aload_n 0, 1) := by decide +kernel
theorem dc_Ck_init_5 : decode bc_Ck_init 5 = .ok (.aload_n 1, 1) := by decide +kernel
theorem dc_Ck_init_6 : decode bc_Ck_init 6 = .ok (.putfield 9, 3) := by decide +kernel
theorem dc_Ck_init_9 : decode bc_Ck_init 9 = .ok (.aload_n 0, 1) := by decide +kernel
theorem dc_Ck_init_10 : decode bc_Ck_init 10 = .ok (.aload_n 2, 1) := by decide +kernel
theorem dc_Ck_init_11 : decode bc_Ck_init 11 = .ok (.putfield 15, 3) := by decide +kernel
theorem dc_Ck_init_14 : decode bc_Ck_init 14 = .ok (.aload_n 0, 1) := by decide +kernel
theorem dc_Ck_init_15 : decode bc_Ck_init 15 = .ok (.aload_n 3, 1) := by decide +kernel
theorem dc_Ck_init_16 : decode bc_Ck_init 16 = .ok (.putfield 19, 3) := by decide +kernel
theorem dc_Ck_init_19 : decode bc_Ck_init 19 = .ok (.aload_n 0, 1) := by decide +kernel
theorem dc_Ck_init_20 : decode bc_Ck_init 20 = .ok (.aload 4, 2) := by decide +kernel
theorem dc_Ck_init_22 : decode bc_Ck_init 22 = .ok (.putfield 23, 3) := by decide +kernel
theorem dc_Ck_init_25 : decode bc_Ck_init 25 = .ok (.return_, 1) := by decide +kernel
set_option maxHeartbeats 4000000 in
set_option maxRecDepth 100000 in
theorem ct_Ck_isRight (l : Launch) (D : va_G) (cI cZ : ClassId) (sz : Nat) (o : Nat) (xc : Nat) (xs : Nat) (xt : Nat) (xa : Nat) (lv : Nat) (ca : Nat) (cb : Nat) (cd : Nat) (cn : Nat) (fz : Nat → Nat) (fs : Nat → Nat) (fl : Nat → Int32) (aa : Nat) (ab : Nat) (n : Nat) (t : Nat) (f : Nat) (rs : Nat → Nat) (im : Nat → Nat) (ta : Nat) (tb : Nat) (td : Nat) (g : Nat) (mk : Nat) (ckd : Bool) (ft : Nat → Nat) (fc : Nat → Nat) (fr : Nat → Int32) (j : Nat) (qb : Nat) (pb : Nat) (hcn : cn ≤ 32) (h16 : ∀ j, fs j < 65536) (hlv : lv < 2 ^ 62) (hz : ∀ i, 1 ≤ i → i ≤ cn → fz i ≤ 8) (hj1 : 1 ≤ j) (hj2 : j ≤ cn) (hlit : 1 ≤ fz j → qb < 16 ∧ fl (j * 8) = pt_lit qb ∧ (qb + 8) % 16 = pb) (hfit : g + (pt_right fs lv mk cn (fz j) pb (fs j) rs im).2.2.1.length ≤ 2048) : Met l yn_Ck_isRight (Cond.code yn_Ck_isRight bc_Ck_isRight 3 (some .boolean) :: kx_all) ({ frames := 4, cells := 0, slots := 0, locals := 101 } : Room) (kp [.ref o, .int (nI j)] D cI cZ [ck_c o xc xs xt xa lv, cl_c xc ca cb cd cn, ar_n cI ca 33 fz, ar_n cI cb 33 fs, ar_i cI cd (33 * 8) fl, as_c xa aa ab n t f, ar_n cI aa 8 rs, ar_n cI ab 8 im, tr_c xt ta tb td g mk ckd, ar_n cI ta 33 ft, ar_n cI tb 33 fc, ar_i cI td 2048 fr] sz) (kw_q (some (.int (kb_i ((pt_right fs lv mk cn (fz j) pb (fs j) rs im).1)))) D kc_l [ck_c o xc xs xt xa lv, cl_c xc ca cb cd cn, ar_n cI ca 33 fz, ar_n cI cb 33 fs, ar_i cI cd (33 * 8) fl, as_c xa aa ab ((pt_right fs lv mk cn (fz j) pb (fs j) rs im).2.2.2.1) ((pt_right fs lv mk cn (fz j) pb (fs j) rs im).2.2.2.2.1) ((pt_right fs lv mk cn (fz j) pb (fs j) rs im).2.2.2.2.2.1), ar_n cI aa 8 ((pt_right fs lv mk cn (fz j) pb (fs j) rs im).2.2.2.2.2.2.1), ar_n cI ab 8 ((pt_right fs lv mk cn (fz j) pb (fs j) rs im).2.2.2.2.2.2.2), tr_c xt ta tb td (g + (pt_right fs lv mk cn (fz j) pb (fs j) rs im).2.2.1.length) ((pt_right fs lv mk cn (fz j) pb (fs j) rs im).2.1) ckd, ar_n cI ta 33 (va_up ft j g), ar_n cI tb 33 (va_up fc j (fc j + (pt_right fs lv mk cn (fz j) pb (fs j) rs im).2.2.1.length)), ar_i cI td 2048 (pt_put fr g (pt_right fs lv mk cn (fz j) pb (fs j) rs im).2.2.1)] (va_A [ck_c o xc xs xt xa lv, cl_c xc ca cb cd cn, ar_n cI ca 33 fz, ar_n cI cb 33 fs, ar_i cI cd (33 * 8) fl, as_c xa aa ab n t f, ar_n cI aa 8 rs, ar_n cI ab 8 im, tr_c xt ta tb td g mk ckd, ar_n cI ta 33 ft, ar_n cI tb 33 fc, ar_i cI td 2048 fr] sz)) 0 0 (va_A [ck_c o xc xs xt xa lv, cl_c xc ca cb cd cn, ar_n cI ca 33 fz, ar_n cI cb 33 fs, ar_i cI cd (33 * 8) fl, as_c xa aa ab n t f, ar_n cI aa 8 rs, ar_n cI ab 8 im, tr_c xt ta tb td g mk ckd, ar_n cI ta 33 ft, ar_n cI tb 33 fc, ar_i cI td 2048 fr] sz) := by
  refine kx_metW (by decide) (Nat.le_of_ble_eq_true rfl) ?_
  intro p e s m below meth c ls A hx hb hr hml hts hown hlocks hin hA hP hK hD hN hl hS
  have hown : s.vm.findClass rn_Ck = some m.cls := hown
  have hl : lv_has ls 3 [(0, .ref o), (1, .int (nI j))] := hl
  have hx16 := nb_op_lt (h16 j)
  have hcap0 : pt_cap 0 (nb_op (fs j)) (nb_op (nb_op (fs j))) := ⟨hx16, rfl, by have := free_le (nb_op (fs j)); omega⟩
  refine lv_aload_n hx hb dc_Ck_isRight_0 rfl (lv_at hl 0 rfl) ?_
  refine va_get (ci := 7) (v := .ref xt) (C := rn_Ck) (T := fd_Ck) (N := 5) hx hb hts in_Ck hown hK hP 0 rfl rfl 2 (by decide) (hts _ wd_578) (fun _ h9 => h9) rfl dc_Ck_isRight_1 ?_
  refine lv_iload_n hx hb dc_Ck_isRight_4 rfl (lv_at hl 1 rfl) ?_
  refine kw_call0 (wr := [ck_c o xc xs xt xa lv, cl_c xc ca cb cd cn, ar_n cI ca 33 fz, ar_n cI cb 33 fs, ar_i cI cd (33 * 8) fl, as_c xa aa ab n t f, ar_n cI aa 8 rs, ar_n cI ab 8 im]) (ws' := [ck_c o xc xs xt xa lv, cl_c xc ca cb cd cn, ar_n cI ca 33 fz, ar_n cI cb 33 fs, ar_i cI cd (33 * 8) fl, as_c xa aa ab n t f, ar_n cI aa 8 rs, ar_n cI ab 8 im, tr_c xt ta tb td g mk ckd, ar_n cI ta 33 (va_up ft j g), ar_n cI tb 33 fc, ar_i cI td 2048 fr]) (va_runV (As := [.int (nI j)]) (rest := []) ⟨hx, hb, hml, hown, hts⟩ (ct_Tr_begin l D cI cZ _ xt ta tb td g mk ckd ft fc fr j (by omega)) (cwV 1 hts (kx_gV wd_607 wd_608 wd_609 wd_7 wd_610) rfl rfl rfl ⟨rfl, yd_Tr_begin⟩ ⟨Nat.le_of_ble_eq_true rfl, Nat.le_of_ble_eq_true rfl⟩) (kp_V (q0 := 8) (ci := 5) hP hD hK hN [8, 9, 10, 11] rfl rfl rfl rfl rfl) rfl rfl hl.1 rfl (lv_room (Nat.le_of_ble_eq_true rfl)) dc_Ck_isRight_5 ⟨Nat.le_of_ble_eq_true rfl, Nat.le_of_ble_eq_true rfl⟩) hP hD hS hA [8, 9, 10, 11] [0, 1, 2, 3, 4, 5, 6, 7] [0, 1, 2, 3, 4, 5, 6, 7, 8, 9, 10, 11] rfl rfl rfl (by decide) rfl rfl (fun H locs hP hD hS => ?_)
  refine lv_aload_n hx hb dc_Ck_isRight_8 rfl (lv_at hl 0 rfl) ?_
  refine va_get (ci := 7) (v := .ref xa) (C := rn_Ck) (T := fd_Ck) (N := 5) hx hb hts in_Ck hown hK hP 0 rfl rfl 3 (by decide) (hts _ wd_579) (fun _ h9 => h9) rfl dc_Ck_isRight_9 ?_
  refine lv_aload_n hx hb dc_Ck_isRight_12 rfl (lv_at hl 0 rfl) ?_
  refine va_get (ci := 7) (v := .ref xc) (C := rn_Ck) (T := fd_Ck) (N := 5) hx hb hts in_Ck hown hK hP 0 rfl rfl 0 (by decide) (hts _ wd_576) (fun _ h9 => h9) rfl dc_Ck_isRight_13 ?_
  refine va_getN (ci := 2) (v := .ref cb) (C := rn_Cl) (T := fd_Cl) (N := 4) hx hb hts in_Cl hown hK hP 1 rfl rfl 1 (by decide) (nf_70 hN) (fun _ h9 => h9) rfl dc_Ck_isRight_16 ?_
  refine lv_iload_n hx hb dc_Ck_isRight_19 rfl (lv_at hl 1 rfl) ?_
  refine ka_nald (t := fs) hx hb hK hP 3 0 rfl rfl (j := j) (by omega) (by omega) dc_Ck_isRight_20 ?_
  refine kr_call1 (va_runSN (As := [.int (nI (fs j))]) (rest := [.ref xa]) ⟨hx, hb, hml, hown, hts⟩ (ct_Pt_opposites l D cI cZ _ (fs j) (h16 j)) ⟨va_cnB 1 hts (kx_gi wd_613) rfl rfl rfl (nw_611 hN) (hts _ wd_1) yd_Pt_opposites ⟨Nat.le_of_ble_eq_true rfl, Nat.le_of_ble_eq_true rfl⟩, hts _ wd_612, trivial⟩ (kp_S hP hD hK hN [] rfl rfl) rfl rfl hl.1 rfl (lv_room (Nat.le_of_ble_eq_true rfl)) dc_Ck_isRight_21 ⟨Nat.le_of_ble_eq_true rfl, Nat.le_of_ble_eq_true rfl⟩) ?_
  refine lv_iconst (v := nI 0) hx hb dc_Ck_isRight_24 (by decide +kernel) ?_
  refine kw_call0 (wr := [ck_c o xc xs xt xa lv, cl_c xc ca cb cd cn, ar_n cI ca 33 fz, ar_n cI cb 33 fs, ar_i cI cd (33 * 8) fl, ar_n cI aa 8 rs, ar_n cI ab 8 im, tr_c xt ta tb td g mk ckd, ar_n cI ta 33 (va_up ft j g), ar_n cI tb 33 fc, ar_i cI td 2048 fr]) (ws' := [ck_c o xc xs xt xa lv, cl_c xc ca cb cd cn, ar_n cI ca 33 fz, ar_n cI cb 33 fs, ar_i cI cd (33 * 8) fl, as_c xa aa ab 0 (nb_op (fs j)) (nb_op (nb_op (fs j))), ar_n cI aa 8 rs, ar_n cI ab 8 im, tr_c xt ta tb td g mk ckd, ar_n cI ta 33 (va_up ft j g), ar_n cI tb 33 fc, ar_i cI td 2048 fr]) (va_runV (As := [.int (nI (nb_op (fs j))), .int (nI 0)]) (rest := []) ⟨hx, hb, hml, hown, hts⟩ (ct_As_restart l D cI cZ _ xa aa ab n t f (nb_op (fs j)) 0 (hx16)) (cwV 2 hts (kx_gV wd_615 wd_616 wd_617 wd_8 wd_618) rfl rfl rfl ⟨rfl, yd_As_restart⟩ ⟨Nat.le_of_ble_eq_true rfl, Nat.le_of_ble_eq_true rfl⟩) (kp_V (q0 := 5) (ci := 6) hP hD hK hN [5] rfl rfl rfl rfl rfl) rfl rfl hl.1 rfl (lv_room (Nat.le_of_ble_eq_true rfl)) dc_Ck_isRight_25 ⟨Nat.le_of_ble_eq_true rfl, Nat.le_of_ble_eq_true rfl⟩) hP hD hS hA [5] [0, 1, 2, 3, 4, 6, 7, 8, 9, 10, 11] [0, 1, 2, 3, 4, 11, 5, 6, 7, 8, 9, 10] rfl rfl rfl (by decide) rfl rfl (fun H locs hP hD hS => ?_)
  refine lv_aload_n hx hb dc_Ck_isRight_28 rfl (lv_at hl 0 rfl) ?_
  refine kw_call1 (wr := [ar_n cI ca 33 fz, ar_i cI cd (33 * 8) fl, ar_n cI ta 33 (va_up ft j g), ar_n cI tb 33 fc, ar_i cI td 2048 fr]) (ws' := [ck_c o xc xs xt xa lv, cl_c xc ca cb cd cn, ar_n cI ca 33 fz, ar_n cI cb 33 fs, ar_i cI cd (33 * 8) fl, as_c xa aa ab ((pt_prop fs lv mk cn 9 0 (nb_op (fs j)) (nb_op (nb_op (fs j))) rs im).2.1) ((pt_prop fs lv mk cn 9 0 (nb_op (fs j)) (nb_op (nb_op (fs j))) rs im).2.2.1) ((pt_prop fs lv mk cn 9 0 (nb_op (fs j)) (nb_op (nb_op (fs j))) rs im).2.2.2.1), ar_n cI aa 8 ((pt_prop fs lv mk cn 9 0 (nb_op (fs j)) (nb_op (nb_op (fs j))) rs im).2.2.2.2.1), ar_n cI ab 8 ((pt_prop fs lv mk cn 9 0 (nb_op (fs j)) (nb_op (nb_op (fs j))) rs im).2.2.2.2.2), tr_c xt ta tb td g mk ckd, ar_n cI ta 33 (va_up ft j g), ar_n cI tb 33 fc, ar_i cI td 2048 fr]) (va_runV (As := []) (rest := []) ⟨hx, hb, hml, hown, hts⟩ (ct_Ck_propagate l D cI cZ _ o xc xs xt xa lv ca cb cd cn fs aa ab 0 (nb_op (fs j)) (nb_op (nb_op (fs j))) rs im ta tb td g mk ckd (by omega) (h16) (hlv) (hcap0)) (cwV 0 hts (kx_gV wd_620 wd_622 (kx_sel (q := (yn_Ck_propagate, 5)) (List.mem_append_left _ (List.mem_of_getElem? (i := 4) rfl))) wd_20 wd_623) rfl rfl rfl ⟨rfl, yd_Ck_propagate⟩ ⟨Nat.le_of_ble_eq_true rfl, Nat.le_of_ble_eq_true rfl⟩) (kp_V (q0 := 0) (ci := 7) hP hD hK hN [0, 1, 3, 5, 6, 7, 8] rfl rfl rfl rfl rfl) rfl rfl hl.1 rfl (lv_room (Nat.le_of_ble_eq_true rfl)) dc_Ck_isRight_29 ⟨Nat.le_of_ble_eq_true rfl, Nat.le_of_ble_eq_true rfl⟩) hP hD hS hA [0, 1, 3, 5, 6, 7, 8] [2, 4, 9, 10, 11] [5, 6, 0, 7, 1, 8, 9, 10, 11, 2, 3, 4] rfl rfl rfl (by decide) rfl rfl (fun H locs hP hD hS => ?_)
  have hpo := prop_ok (lv := lv) (mk := mk) (cn := cn) h16 9 0 (nb_op (fs j)) (nb_op (nb_op (fs j))) rs im ⟨hcap0, fun k hk => absurd hk (Nat.not_lt_zero k)⟩
  generalize hRe : pt_prop fs lv mk cn 9 0 (nb_op (fs j)) (nb_op (nb_op (fs j))) rs im = RR at hpo hP hD ⊢
  have hrn8 := aok_n hpo.2.2
  refine lv_istore_n (lv' := [(2, .int (nI RR.1)), (0, .ref o), (1, .int (nI j))]) hx hb dc_Ck_isRight_32 rfl hl (by decide) rfl (fun ls hl => ?_)
  refine lv_iload_n hx hb dc_Ck_isRight_33 rfl (lv_at hl 0 rfl) ?_
  refine kn_if_eq hx hb (by have := hpo.1; omega) dc_Ck_isRight_34 rfl (fun hc34 => ?_) (fun hc34 => ?_)
  · refine lv_aload_n hx hb dc_Ck_isRight_58 rfl (lv_at hl 1 rfl) ?_
    refine va_get (ci := 7) (v := .ref xc) (C := rn_Ck) (T := fd_Ck) (N := 5) hx hb hts in_Ck hown hK hP 0 rfl rfl 0 (by decide) (hts _ wd_576) (fun _ h9 => h9) rfl dc_Ck_isRight_59 ?_
    refine va_getN (ci := 2) (v := .ref ca) (C := rn_Cl) (T := fd_Cl) (N := 4) hx hb hts in_Cl hown hK hP 1 rfl rfl 0 (by decide) (nf_65 hN) (fun _ h9 => h9) rfl dc_Ck_isRight_62 ?_
    refine lv_iload_n hx hb dc_Ck_isRight_65 rfl (lv_at hl 2 rfl) ?_
    refine ka_nald (t := fz) hx hb hK hP 2 0 rfl rfl (j := j) (by omega) (by omega) dc_Ck_isRight_66 ?_
    refine kn_if_eq hx hb (Nat.lt_of_le_of_lt (hz j hj1 hj2) (by decide)) dc_Ck_isRight_67 rfl (fun hc67 => ?_) (fun hc67 => ?_)
    · have hZ : pt_right fs lv mk cn (fz j) pb (fs j) rs im = (false, mk, [], RR.2) := by
        rw [pt_right, hRe]; dsimp only; rw [if_pos hc34, if_pos hc67]
      refine lv_iconst (v := nI 0) hx hb dc_Ck_isRight_82 (by decide +kernel) ?_
      refine kn_top (y := kb_i false) (by decide +kernel) ?_
      exact kw_zret hx hb hr hlocks hP hD hS dc_Ck_isRight_83 (by rw [hZ]) (by rw [hZ]; dsimp only; rw [put_0, cnt_0]; rfl)
    · have hZ : pt_right fs lv mk cn (fz j) pb (fs j) rs im = ((pt_sp fs lv mk cn (2 ^ pb) RR.2.2.1 RR.2.1 cn 1 (pt_ru RR.2.2.2.2.1 RR.2.1) (pt_rl RR.2.2.2.2.1 RR.2.1) RR.2.1 RR.2.2.1 RR.2.2.2.1 RR.2.2.2.2.1 RR.2.2.2.2.2).1, if (pt_sp fs lv mk cn (2 ^ pb) RR.2.2.1 RR.2.1 cn 1 (pt_ru RR.2.2.2.2.1 RR.2.1) (pt_rl RR.2.2.2.2.1 RR.2.1) RR.2.1 RR.2.2.1 RR.2.2.2.1 RR.2.2.2.2.1 RR.2.2.2.2.2).1 = true then mk ||| (pt_sp fs lv mk cn (2 ^ pb) RR.2.2.1 RR.2.1 cn 1 (pt_ru RR.2.2.2.2.1 RR.2.1) (pt_rl RR.2.2.2.2.1 RR.2.1) RR.2.1 RR.2.2.1 RR.2.2.2.1 RR.2.2.2.2.1 RR.2.2.2.2.2).2.1 else mk, (pt_sp fs lv mk cn (2 ^ pb) RR.2.2.1 RR.2.1 cn 1 (pt_ru RR.2.2.2.2.1 RR.2.1) (pt_rl RR.2.2.2.2.1 RR.2.1) RR.2.1 RR.2.2.1 RR.2.2.2.1 RR.2.2.2.2.1 RR.2.2.2.2.2).2.2) := by
        rw [pt_right, hRe]; dsimp only; rw [if_pos hc34, if_neg hc67]
      refine lv_aload_n hx hb dc_Ck_isRight_70 rfl (lv_at hl 1 rfl) ?_
      refine lv_iload_n hx hb dc_Ck_isRight_71 rfl (lv_at hl 2 rfl) ?_
      refine kw_call1 (wr := []) (ws' := [ck_c o xc xs xt xa lv, cl_c xc ca cb cd cn, ar_n cI ca 33 fz, ar_n cI cb 33 fs, ar_i cI cd (33 * 8) fl, as_c xa aa ab ((pt_sp fs lv mk cn (2 ^ pb) RR.2.2.1 RR.2.1 cn 1 (pt_ru RR.2.2.2.2.1 RR.2.1) (pt_rl RR.2.2.2.2.1 RR.2.1) RR.2.1 RR.2.2.1 RR.2.2.2.1 RR.2.2.2.2.1 RR.2.2.2.2.2).2.2.2.1) ((pt_sp fs lv mk cn (2 ^ pb) RR.2.2.1 RR.2.1 cn 1 (pt_ru RR.2.2.2.2.1 RR.2.1) (pt_rl RR.2.2.2.2.1 RR.2.1) RR.2.1 RR.2.2.1 RR.2.2.2.1 RR.2.2.2.2.1 RR.2.2.2.2.2).2.2.2.2.1) ((pt_sp fs lv mk cn (2 ^ pb) RR.2.2.1 RR.2.1 cn 1 (pt_ru RR.2.2.2.2.1 RR.2.1) (pt_rl RR.2.2.2.2.1 RR.2.1) RR.2.1 RR.2.2.1 RR.2.2.2.1 RR.2.2.2.2.1 RR.2.2.2.2.2).2.2.2.2.2.1), ar_n cI aa 8 ((pt_sp fs lv mk cn (2 ^ pb) RR.2.2.1 RR.2.1 cn 1 (pt_ru RR.2.2.2.2.1 RR.2.1) (pt_rl RR.2.2.2.2.1 RR.2.1) RR.2.1 RR.2.2.1 RR.2.2.2.1 RR.2.2.2.2.1 RR.2.2.2.2.2).2.2.2.2.2.2.1), ar_n cI ab 8 ((pt_sp fs lv mk cn (2 ^ pb) RR.2.2.1 RR.2.1 cn 1 (pt_ru RR.2.2.2.2.1 RR.2.1) (pt_rl RR.2.2.2.2.1 RR.2.1) RR.2.1 RR.2.2.1 RR.2.2.2.1 RR.2.2.2.2.1 RR.2.2.2.2.2).2.2.2.2.2.2.2), tr_c xt ta tb td (g + (pt_sp fs lv mk cn (2 ^ pb) RR.2.2.1 RR.2.1 cn 1 (pt_ru RR.2.2.2.2.1 RR.2.1) (pt_rl RR.2.2.2.2.1 RR.2.1) RR.2.1 RR.2.2.1 RR.2.2.2.1 RR.2.2.2.2.1 RR.2.2.2.2.2).2.2.1.length) (if (pt_sp fs lv mk cn (2 ^ pb) RR.2.2.1 RR.2.1 cn 1 (pt_ru RR.2.2.2.2.1 RR.2.1) (pt_rl RR.2.2.2.2.1 RR.2.1) RR.2.1 RR.2.2.1 RR.2.2.2.1 RR.2.2.2.2.1 RR.2.2.2.2.2).1 = true then mk ||| (pt_sp fs lv mk cn (2 ^ pb) RR.2.2.1 RR.2.1 cn 1 (pt_ru RR.2.2.2.2.1 RR.2.1) (pt_rl RR.2.2.2.2.1 RR.2.1) RR.2.1 RR.2.2.1 RR.2.2.2.1 RR.2.2.2.2.1 RR.2.2.2.2.2).2.1 else mk) ckd, ar_n cI ta 33 (va_up ft j g), ar_n cI tb 33 (va_up fc j (fc j + (pt_sp fs lv mk cn (2 ^ pb) RR.2.2.1 RR.2.1 cn 1 (pt_ru RR.2.2.2.2.1 RR.2.1) (pt_rl RR.2.2.2.2.1 RR.2.1) RR.2.1 RR.2.2.1 RR.2.2.2.1 RR.2.2.2.2.1 RR.2.2.2.2.2).2.2.1.length)), ar_i cI td 2048 (pt_put fr g (pt_sp fs lv mk cn (2 ^ pb) RR.2.2.1 RR.2.1 cn 1 (pt_ru RR.2.2.2.2.1 RR.2.1) (pt_rl RR.2.2.2.2.1 RR.2.1) RR.2.1 RR.2.2.1 RR.2.2.2.1 RR.2.2.2.2.1 RR.2.2.2.2.2).2.2.1)]) (va_runV (As := [.int (nI j)]) (rest := []) ⟨hx, hb, hml, hown, hts⟩ (ct_Ck_settlesPartners l D cI cZ _ o xc xs xt xa lv ca cb cd cn fz fs fl aa ab RR.2.1 RR.2.2.1 RR.2.2.2.1 RR.2.2.2.2.1 RR.2.2.2.2.2 ta tb td g mk ckd (va_up ft j g) fc fr j qb pb (by omega) (h16) (hlv) (hz) (hpo.2.2) (by omega) (by omega) (by omega) ((hlit (by omega)).1) ((hlit (by omega)).2.1) ((hlit (by omega)).2.2) (by rw [hZ] at hfit; exact hfit)) (cwV 1 hts (kx_gV wd_649 wd_651 (kx_sel (q := (yn_Ck_settlesPartners, 5)) (List.mem_append_left _ (List.mem_of_getElem? (i := 7) rfl))) wd_20 wd_652) rfl rfl rfl ⟨rfl, yd_Ck_settlesPartners⟩ ⟨Nat.le_of_ble_eq_true rfl, Nat.le_of_ble_eq_true rfl⟩) (kp_V (q0 := 0) (ci := 7) hP hD hK hN [0, 1, 2, 3, 4, 5, 6, 7, 8, 9, 10, 11] rfl rfl rfl rfl rfl) rfl rfl hl.1 rfl (lv_room (Nat.le_of_ble_eq_true rfl)) dc_Ck_isRight_72 ⟨Nat.le_of_ble_eq_true rfl, Nat.le_of_ble_eq_true rfl⟩) hP hD hS hA [0, 1, 2, 3, 4, 5, 6, 7, 8, 9, 10, 11] [] [0, 1, 2, 3, 4, 5, 6, 7, 8, 9, 10, 11] rfl rfl rfl (by decide) rfl rfl (fun H locs hP hD hS => ?_)
      generalize hSe : pt_sp fs lv mk cn (2 ^ pb) RR.2.2.1 RR.2.1 cn 1 (pt_ru RR.2.2.2.2.1 RR.2.1) (pt_rl RR.2.2.2.2.1 RR.2.1) RR.2.1 RR.2.2.1 RR.2.2.2.1 RR.2.2.2.2.1 RR.2.2.2.2.2 = SS at hP hD hZ ⊢
      refine kb_if_eq hx hb dc_Ck_isRight_75 rfl (fun hc75 => ?_) (fun hc75 => ?_)
      · refine lv_iconst (v := nI 0) hx hb dc_Ck_isRight_82 (by decide +kernel) ?_
        refine kn_top (y := kb_i false) (by decide +kernel) ?_
        exact kw_zret hx hb hr hlocks hP hD hS dc_Ck_isRight_83 (by rw [hZ]; exact hc75.symm) (by rw [hZ])
      · refine lv_iconst (v := nI 1) hx hb dc_Ck_isRight_78 (by decide +kernel) ?_
        refine lv_goto hx hb dc_Ck_isRight_79 rfl ?_
        refine kn_top (y := kb_i true) (by decide +kernel) ?_
        exact kw_zret hx hb hr hlocks hP hD hS dc_Ck_isRight_83 (by rw [hZ]; exact hc75.symm) (by rw [hZ])
  · have hu33 : pt_used fs RR.2.2.2.2.1 RR.2.2.2.2.2 RR.2.1 (2 ^ RR.1) (fs RR.1) < 2 ^ 33 := used_lt _ _ _ (Nat.pow_lt_pow_right (by decide) (by have := hpo.1; omega)) (fun k hk => by have := (hpo.2.2.2 k hk).1; omega)
    have hZ : pt_right fs lv mk cn (fz j) pb (fs j) rs im = (true, mk ||| pt_used fs RR.2.2.2.2.1 RR.2.2.2.2.2 RR.2.1 (2 ^ RR.1) (fs RR.1), pt_exs RR.2.2.2.2.1 (pt_used fs RR.2.2.2.2.1 RR.2.2.2.2.2 RR.2.1 (2 ^ RR.1) (fs RR.1)) 0 (RR.2.1 - 0) ++ [nI RR.1], RR.2) := by
      rw [pt_right, hRe]; dsimp only; rw [if_neg hc34]
    refine lv_aload_n hx hb dc_Ck_isRight_37 rfl (lv_at hl 1 rfl) ?_
    refine va_get (ci := 7) (v := .ref xt) (C := rn_Ck) (T := fd_Ck) (N := 5) hx hb hts in_Ck hown hK hP 0 rfl rfl 2 (by decide) (hts _ wd_578) (fun _ h9 => h9) rfl dc_Ck_isRight_38 ?_
    refine lv_dup hx hb dc_Ck_isRight_41 rfl ?_
    refine va_getN (ci := 5) (v := .long (lN mk)) (C := rn_Tr) (T := fd_Tr) (N := 6) hx hb hts in_Tr hown hK hP 8 rfl rfl 4 (by decide) (nf_140 hN) (fun _ h9 => h9) rfl dc_Ck_isRight_42 ?_
    refine lv_aload_n hx hb dc_Ck_isRight_45 rfl (lv_at hl 1 rfl) ?_
    refine lv_iload_n hx hb dc_Ck_isRight_46 rfl (lv_at hl 2 rfl) ?_
    refine lv_iconst (v := nI 0) hx hb dc_Ck_isRight_47 (by decide +kernel) ?_
    refine lv_iload_n hx hb dc_Ck_isRight_48 rfl (lv_at hl 0 rfl) ?_
    refine kw_call1 (wr := [ar_n cI ca 33 fz, ar_i cI cd (33 * 8) fl]) (ws' := [ck_c o xc xs xt xa lv, cl_c xc ca cb cd cn, ar_n cI ca 33 fz, ar_n cI cb 33 fs, ar_i cI cd (33 * 8) fl, as_c xa aa ab RR.2.1 RR.2.2.1 RR.2.2.2.1, ar_n cI aa 8 RR.2.2.2.2.1, ar_n cI ab 8 RR.2.2.2.2.2, tr_c xt ta tb td (g + (pt_exs RR.2.2.2.2.1 (pt_used fs RR.2.2.2.2.1 RR.2.2.2.2.2 RR.2.1 (2 ^ RR.1) (fs RR.1)) 0 (RR.2.1 - 0) ++ [nI RR.1]).length) mk ckd, ar_n cI ta 33 (va_up ft j g), ar_n cI tb 33 (va_up fc j (fc j + (pt_exs RR.2.2.2.2.1 (pt_used fs RR.2.2.2.2.1 RR.2.2.2.2.2 RR.2.1 (2 ^ RR.1) (fs RR.1)) 0 (RR.2.1 - 0) ++ [nI RR.1]).length)), ar_i cI td 2048 (pt_put fr g (pt_exs RR.2.2.2.2.1 (pt_used fs RR.2.2.2.2.1 RR.2.2.2.2.2 RR.2.1 (2 ^ RR.1) (fs RR.1)) 0 (RR.2.1 - 0) ++ [nI RR.1]))]) (va_runV (As := [.int (nI j), .int (nI 0), .int (nI RR.1)]) (rest := [.long (lN mk), .ref xt]) ⟨hx, hb, hml, hown, hts⟩ (ct_Ck_explain l D cI cZ _ o xc xs xt xa lv ca cb cd cn fs aa ab RR.2.1 RR.2.2.1 RR.2.2.2.1 RR.2.2.2.2.1 RR.2.2.2.2.2 ta tb td g mk ckd (va_up ft j g) fc fr j 0 RR.1 (hcn) (hrn8) (fun k hk => ⟨by have := (hpo.2.2.2 k hk).1; omega, (hpo.2.2.2 k hk).2⟩) (by have := hpo.1; omega) (by omega) (by omega) (Nat.lt_trans hu33 (by decide)) (by rw [hZ] at hfit; exact hfit)) (cwV 3 hts (kx_gV wd_636 wd_638 (kx_sel (q := (yn_Ck_explain, 5)) (List.mem_append_left _ (List.mem_of_getElem? (i := 6) rfl))) wd_20 wd_639) rfl rfl rfl ⟨rfl, yd_Ck_explain⟩ ⟨Nat.le_of_ble_eq_true rfl, Nat.le_of_ble_eq_true rfl⟩) (kp_V (q0 := 0) (ci := 7) hP hD hK hN [0, 1, 3, 5, 6, 7, 8, 9, 10, 11] rfl rfl rfl rfl rfl) rfl rfl hl.1 rfl (lv_room (Nat.le_of_ble_eq_true rfl)) dc_Ck_isRight_49 ⟨Nat.le_of_ble_eq_true rfl, Nat.le_of_ble_eq_true rfl⟩) hP hD hS hA [0, 1, 3, 5, 6, 7, 8, 9, 10, 11] [2, 4] [2, 3, 0, 4, 1, 5, 6, 7, 8, 9, 10, 11] rfl rfl rfl (by decide) rfl rfl (fun H locs hP hD hS => ?_)
    refine kl_lor hx hb dc_Ck_isRight_52 ?_
    refine va_putN (ci := 5) (v := .long (lN (mk ||| (pt_used fs RR.2.2.2.2.1 RR.2.2.2.2.2 RR.2.1 (2 ^ RR.1) (fs RR.1))))) (ty := .long) (C := rn_Tr) (T := fd_Tr) (N := 6) hx hb hts in_Tr ty_Tr tk_Tr nm_Tr hown hK hP hD hS 8 rfl rfl 4 (by decide) (nf_140 hN) (fun _ h9 => h9) rfl (by decide +kernel) rfl rfl (Nat.le_of_ble_eq_true rfl) dc_Ck_isRight_53 (fun H locs hP hD hS => ?_)
    have hP : va_P D kc_l [ck_c o xc xs xt xa lv, cl_c xc ca cb cd cn, ar_n cI ca 33 fz, ar_n cI cb 33 fs, ar_i cI cd (33 * 8) fl, as_c xa aa ab RR.2.1 RR.2.2.1 RR.2.2.2.1, ar_n cI aa 8 RR.2.2.2.2.1, ar_n cI ab 8 RR.2.2.2.2.2, tr_c xt ta tb td (g + (pt_exs RR.2.2.2.2.1 (pt_used fs RR.2.2.2.2.1 RR.2.2.2.2.2 RR.2.1 (2 ^ RR.1) (fs RR.1)) 0 (RR.2.1 - 0) ++ [nI RR.1]).length) (mk ||| (pt_used fs RR.2.2.2.2.1 RR.2.2.2.2.2 RR.2.1 (2 ^ RR.1) (fs RR.1))) ckd, ar_n cI ta 33 (va_up ft j g), ar_n cI tb 33 (va_up fc j (fc j + (pt_exs RR.2.2.2.2.1 (pt_used fs RR.2.2.2.2.1 RR.2.2.2.2.2 RR.2.1 (2 ^ RR.1) (fs RR.1)) 0 (RR.2.1 - 0) ++ [nI RR.1]).length)), ar_i cI td 2048 (pt_put fr g (pt_exs RR.2.2.2.2.1 (pt_used fs RR.2.2.2.2.1 RR.2.2.2.2.2 RR.2.1 (2 ^ RR.1) (fs RR.1)) 0 (RR.2.1 - 0) ++ [nI RR.1]))] H := hP
    have hD : va_D A [ck_c o xc xs xt xa lv, cl_c xc ca cb cd cn, ar_n cI ca 33 fz, ar_n cI cb 33 fs, ar_i cI cd (33 * 8) fl, as_c xa aa ab RR.2.1 RR.2.2.1 RR.2.2.2.1, ar_n cI aa 8 RR.2.2.2.2.1, ar_n cI ab 8 RR.2.2.2.2.2, tr_c xt ta tb td (g + (pt_exs RR.2.2.2.2.1 (pt_used fs RR.2.2.2.2.1 RR.2.2.2.2.2 RR.2.1 (2 ^ RR.1) (fs RR.1)) 0 (RR.2.1 - 0) ++ [nI RR.1]).length) (mk ||| (pt_used fs RR.2.2.2.2.1 RR.2.2.2.2.2 RR.2.1 (2 ^ RR.1) (fs RR.1))) ckd, ar_n cI ta 33 (va_up ft j g), ar_n cI tb 33 (va_up fc j (fc j + (pt_exs RR.2.2.2.2.1 (pt_used fs RR.2.2.2.2.1 RR.2.2.2.2.2 RR.2.1 (2 ^ RR.1) (fs RR.1)) 0 (RR.2.1 - 0) ++ [nI RR.1]).length)), ar_i cI td 2048 (pt_put fr g (pt_exs RR.2.2.2.2.1 (pt_used fs RR.2.2.2.2.1 RR.2.2.2.2.2 RR.2.1 (2 ^ RR.1) (fs RR.1)) 0 (RR.2.1 - 0) ++ [nI RR.1]))] := hD
    refine lv_iconst (v := nI 1) hx hb dc_Ck_isRight_56 (by decide +kernel) ?_
    refine kn_top (y := kb_i true) (by decide +kernel) ?_
    exact kw_zret hx hb hr hlocks hP hD hS dc_Ck_isRight_57 (by rw [hZ]) (by rw [hZ])

theorem sp_lt {fs : Nat → Nat} {lv mk cn pv rc n0 : Nat} (h16 : ∀ j, fs j < 65536) (hcn : cn ≤ 32) (hrc : rc < 65536) (hc0 : n0 + pt_free rc ≤ 8) : ∀ (k p u : Nat) (L : List Int32) (n t f : Nat) (rs im : Nat → Nat), p + k ≤ 33 → u < 2 ^ 33 → (∀ k, k < n0 → (1 ≤ rs k ∧ rs k ≤ cn) ∧ im k < 65536) → (pt_sp fs lv mk cn pv rc n0 k p u L n t f rs im).2.1 < 2 ^ 33 := by
  intro k
  induction k with
  | zero => intro p u L n t f rs im _ hu _; exact hu
  | succ k ih =>
    intro p u L n t f rs im hp hu hr
    have hp2 : u ||| 2 ^ p < 2 ^ 33 := Nat.or_lt_two_pow hu (Nat.pow_lt_pow_right (by decide) (by omega))
    rw [pt_sp]
    split
    · exact ih _ _ _ _ _ _ _ _ (by omega) hu hr
    · split
      · exact ih _ _ _ _ _ _ _ _ (by omega) hp2 hr
      · dsimp only
        have ho16 : nb_d (fs p) pv < 65536 := nb_d_lt (n := 16) (h16 p)
        have hnt : rc ||| nb_op (nb_d (fs p) pv) < 65536 := Nat.or_lt_two_pow (n := 16) hrc (nb_op_lt ho16)
        have hpo := prop_ok (lv := lv) (mk := mk) (cn := cn) h16 9 n0 (rc ||| nb_op (nb_d (fs p) pv)) (nb_op (rc ||| nb_op (nb_d (fs p) pv))) rs im ⟨⟨hnt, rfl, by have := free_mono rc (nb_op (nb_d (fs p) pv)); omega⟩, hr⟩
        generalize pt_prop fs lv mk cn 9 n0 (rc ||| nb_op (nb_d (fs p) pv)) (nb_op (rc ||| nb_op (nb_d (fs p) pv))) rs im = R at hpo ⊢
        split
        · exact hp2
        · refine ih _ _ _ _ _ _ _ _ (by omega) (Nat.or_lt_two_pow hp2 (used_lt _ _ _ (Nat.pow_lt_pow_right (by decide) (by have := hpo.1; omega)) (fun i hi => by have := (hpo.2.2.2 i hi).1; omega))) (fun i hi => hpo.2.2.2 i (by have := hpo.2.1; omega))
theorem right_mk {fs : Nat → Nat} {lv mk cn w pb x : Nat} {rs im : Nat → Nat} (h16 : ∀ j, fs j < 65536) (hx : x < 65536) (hcn : cn ≤ 32) (_h : True ∨ w = w) (hm : mk < 2 ^ 62) : (pt_right fs lv mk cn w pb x rs im).2.1 < 2 ^ 62 := by
  have hpo := prop_ok (lv := lv) (mk := mk) (cn := cn) h16 9 0 (nb_op x) (nb_op (nb_op x)) rs im ⟨⟨nb_op_lt hx, rfl, by have := free_le (nb_op x); omega⟩, fun k hk => absurd hk (Nat.not_lt_zero k)⟩
  rw [pt_right]
  dsimp only
  generalize pt_prop fs lv mk cn 9 0 (nb_op x) (nb_op (nb_op x)) rs im = R at hpo ⊢
  split
  · split
    · exact hm
    · dsimp only
      split
      · exact Nat.or_lt_two_pow hm (Nat.lt_trans (sp_lt h16 hcn hpo.2.2.1.1 hpo.2.2.1.2.2 _ _ _ _ _ _ _ _ _ (by omega) (ru_lt _ (fun i hi => by have := (hpo.2.2.2 i hi).1; omega)) hpo.2.2.2) (by decide))
      · exact hm
  · exact Nat.or_lt_two_pow hm (Nat.lt_trans (used_lt _ _ _ (Nat.pow_lt_pow_right (by decide) (by have := hpo.1; omega)) (fun i hi => by have := (hpo.2.2.2 i hi).1; omega)) (by decide))

set_option maxHeartbeats 4000000 in
set_option maxRecDepth 100000 in
theorem ct_Ck_goBack (l : Launch) (D : va_G) (cI cZ : ClassId) (sz : Nat) (o : Nat) (xc : Nat) (xs : Nat) (xt : Nat) (xa : Nat) (lv : Nat) (ca : Nat) (cb : Nat) (cd : Nat) (cn : Nat) (fz : Nat → Nat) (fs : Nat → Nat) (fl : Nat → Int32) (aa : Nat) (ab : Nat) (n : Nat) (t : Nat) (f : Nat) (rs : Nat → Nat) (im : Nat → Nat) (ta : Nat) (tb : Nat) (td : Nat) (g : Nat) (mk : Nat) (ckd : Bool) (ft : Nat → Nat) (fc : Nat → Nat) (fr : Nat → Int32) (sa : Nat) (sb : Nat) (sn : Nat) (sop : Bool) (dl : Nat → Bool) (nu : Nat → Nat) (b : Nat) (qb : Nat → Nat) (pb : Nat → Nat) (hcn : cn ≤ 32) (h16 : ∀ j, fs j < 65536) (hz : ∀ i, 1 ≤ i → i ≤ cn → fz i ≤ 8) (hsn : sn ≤ 16) (hnu : ∀ i, 1 ≤ i → i ≤ sn → nu i ≤ cn) (hn32 : ∀ i, nu i ≤ 32) (hadd : ∀ i, 1 ≤ i → i ≤ sn → dl i = false → 1 ≤ nu i) (hb16 : b ≤ 16) (hlit : ∀ j, 1 ≤ j → j ≤ cn → 1 ≤ fz j → qb j < 16 ∧ fl (j * 8) = pt_lit (qb j) ∧ (qb j + 8) % 16 = pb j) (hfit : (pt_gb fs fz pb cn dl nu sn (pt_live dl nu sn 1 (2 ^ (b + 1) - 2)) (2 ^ cn) g ft fc fr n t f rs im).2.2.2.1 ≤ 2048) : Met l yn_Ck_goBack (Cond.code yn_Ck_goBack bc_Ck_goBack 4 (some .int) :: kx_all) ({ frames := 5, cells := 0, slots := 0, locals := 123 } : Room) (kp [.ref o, .int (nI b)] D cI cZ [ck_c o xc xs xt xa lv, cl_c xc ca cb cd cn, ar_n cI ca 33 fz, ar_n cI cb 33 fs, ar_i cI cd (33 * 8) fl, as_c xa aa ab n t f, ar_n cI aa 8 rs, ar_n cI ab 8 im, tr_c xt ta tb td g mk ckd, ar_n cI ta 33 ft, ar_n cI tb 33 fc, ar_i cI td 2048 fr, sp_c xs sa sb sn sop, ar_b cZ sa 17 dl, ar_n cI sb 17 nu] sz) (kw_q (some (.int (nI ((pt_gb fs fz pb cn dl nu sn (pt_live dl nu sn 1 (2 ^ (b + 1) - 2)) (2 ^ cn) g ft fc fr n t f rs im).1)))) D kc_l [ck_c o xc xs xt xa ((pt_gb fs fz pb cn dl nu sn (pt_live dl nu sn 1 (2 ^ (b + 1) - 2)) (2 ^ cn) g ft fc fr n t f rs im).2.1), cl_c xc ca cb cd cn, ar_n cI ca 33 fz, ar_n cI cb 33 fs, ar_i cI cd (33 * 8) fl, as_c xa aa ab ((pt_gb fs fz pb cn dl nu sn (pt_live dl nu sn 1 (2 ^ (b + 1) - 2)) (2 ^ cn) g ft fc fr n t f rs im).2.2.2.2.2.2.2.1) ((pt_gb fs fz pb cn dl nu sn (pt_live dl nu sn 1 (2 ^ (b + 1) - 2)) (2 ^ cn) g ft fc fr n t f rs im).2.2.2.2.2.2.2.2.1) ((pt_gb fs fz pb cn dl nu sn (pt_live dl nu sn 1 (2 ^ (b + 1) - 2)) (2 ^ cn) g ft fc fr n t f rs im).2.2.2.2.2.2.2.2.2.1), ar_n cI aa 8 ((pt_gb fs fz pb cn dl nu sn (pt_live dl nu sn 1 (2 ^ (b + 1) - 2)) (2 ^ cn) g ft fc fr n t f rs im).2.2.2.2.2.2.2.2.2.2.1), ar_n cI ab 8 ((pt_gb fs fz pb cn dl nu sn (pt_live dl nu sn 1 (2 ^ (b + 1) - 2)) (2 ^ cn) g ft fc fr n t f rs im).2.2.2.2.2.2.2.2.2.2.2), tr_c xt ta tb td ((pt_gb fs fz pb cn dl nu sn (pt_live dl nu sn 1 (2 ^ (b + 1) - 2)) (2 ^ cn) g ft fc fr n t f rs im).2.2.2.1) ((pt_gb fs fz pb cn dl nu sn (pt_live dl nu sn 1 (2 ^ (b + 1) - 2)) (2 ^ cn) g ft fc fr n t f rs im).2.2.1) ckd, ar_n cI ta 33 ((pt_gb fs fz pb cn dl nu sn (pt_live dl nu sn 1 (2 ^ (b + 1) - 2)) (2 ^ cn) g ft fc fr n t f rs im).2.2.2.2.1), ar_n cI tb 33 ((pt_gb fs fz pb cn dl nu sn (pt_live dl nu sn 1 (2 ^ (b + 1) - 2)) (2 ^ cn) g ft fc fr n t f rs im).2.2.2.2.2.1), ar_i cI td 2048 ((pt_gb fs fz pb cn dl nu sn (pt_live dl nu sn 1 (2 ^ (b + 1) - 2)) (2 ^ cn) g ft fc fr n t f rs im).2.2.2.2.2.2.1), sp_c xs sa sb sn sop, ar_b cZ sa 17 dl, ar_n cI sb 17 nu] (va_A [ck_c o xc xs xt xa lv, cl_c xc ca cb cd cn, ar_n cI ca 33 fz, ar_n cI cb 33 fs, ar_i cI cd (33 * 8) fl, as_c xa aa ab n t f, ar_n cI aa 8 rs, ar_n cI ab 8 im, tr_c xt ta tb td g mk ckd, ar_n cI ta 33 ft, ar_n cI tb 33 fc, ar_i cI td 2048 fr, sp_c xs sa sb sn sop, ar_b cZ sa 17 dl, ar_n cI sb 17 nu] sz)) 0 0 (va_A [ck_c o xc xs xt xa lv, cl_c xc ca cb cd cn, ar_n cI ca 33 fz, ar_n cI cb 33 fs, ar_i cI cd (33 * 8) fl, as_c xa aa ab n t f, ar_n cI aa 8 rs, ar_n cI ab 8 im, tr_c xt ta tb td g mk ckd, ar_n cI ta 33 ft, ar_n cI tb 33 fc, ar_i cI td 2048 fr, sp_c xs sa sb sn sop, ar_b cZ sa 17 dl, ar_n cI sb 17 nu] sz) := by
  refine kx_metW (by decide) (Nat.le_of_ble_eq_true rfl) ?_
  intro p e s m below meth c ls A hx hb hr hml hts hown hlocks hin hA hP hK hD hN hl hS
  have hown : s.vm.findClass rn_Ck = some m.cls := hown
  have hl : lv_has ls 4 [(0, .ref o), (1, .int (nI b))] := hl
  have hl0 : pt_live dl nu sn 1 (2 ^ (b + 1) - 2) < 2 ^ 33 := live_lt hn32 _ _ _ (Nat.lt_of_le_of_lt (Nat.sub_le _ _) (Nat.pow_lt_pow_right (by decide) (by omega)))
  refine lv_aload_n hx hb dc_Ck_goBack_0 rfl (lv_at hl 0 rfl) ?_
  refine lv_aload_n hx hb dc_Ck_goBack_1 rfl (lv_at hl 0 rfl) ?_
  refine va_get (ci := 7) (v := .ref xs) (C := rn_Ck) (T := fd_Ck) (N := 5) hx hb hts in_Ck hown hK hP 0 rfl rfl 1 (by decide) (hts _ wd_577) (fun _ h9 => h9) rfl dc_Ck_goBack_2 ?_
  refine lv_iload_n hx hb dc_Ck_goBack_5 rfl (lv_at hl 1 rfl) ?_
  refine kr_call1 (va_runV (As := [.int (nI b)]) (rest := [.ref o]) ⟨hx, hb, hml, hown, hts⟩ (ct_Sp_liveAfterAll l D cI cZ _ xs sa sb sn sop dl nu b (hsn) (hn32) (by omega)) (cwV 1 hts (kx_gV wd_596 wd_597 wd_598 wd_6 wd_599) rfl rfl rfl ⟨rfl, yd_Sp_liveAfterAll⟩ ⟨Nat.le_of_ble_eq_true rfl, Nat.le_of_ble_eq_true rfl⟩) (kp_V (q0 := 12) (ci := 4) hP hD hK hN [12, 13, 14] rfl rfl rfl rfl rfl) rfl rfl hl.1 rfl (lv_room (Nat.le_of_ble_eq_true rfl)) dc_Ck_goBack_6 ⟨Nat.le_of_ble_eq_true rfl, Nat.le_of_ble_eq_true rfl⟩) ?_
  refine va_put (ci := 7) (v := .long (lN (pt_live dl nu sn 1 (2 ^ (b + 1) - 2)))) (ty := .long) (C := rn_Ck) (T := fd_Ck) (N := 5) hx hb hts in_Ck ty_Ck tk_Ck nm_Ck hown hK hP hD hS 0 rfl rfl 4 (by decide) (hts _ wd_580) (fun _ h9 => h9) rfl (by decide +kernel) rfl rfl (Nat.le_of_ble_eq_true rfl) dc_Ck_goBack_9 (fun H locs hP hD hS => ?_)
  have hP : va_P D kc_l [ck_c o xc xs xt xa (pt_live dl nu sn 1 (2 ^ (b + 1) - 2)), cl_c xc ca cb cd cn, ar_n cI ca 33 fz, ar_n cI cb 33 fs, ar_i cI cd (33 * 8) fl, as_c xa aa ab n t f, ar_n cI aa 8 rs, ar_n cI ab 8 im, tr_c xt ta tb td g mk ckd, ar_n cI ta 33 ft, ar_n cI tb 33 fc, ar_i cI td 2048 fr, sp_c xs sa sb sn sop, ar_b cZ sa 17 dl, ar_n cI sb 17 nu] H := hP
  have hD : va_D A [ck_c o xc xs xt xa (pt_live dl nu sn 1 (2 ^ (b + 1) - 2)), cl_c xc ca cb cd cn, ar_n cI ca 33 fz, ar_n cI cb 33 fs, ar_i cI cd (33 * 8) fl, as_c xa aa ab n t f, ar_n cI aa 8 rs, ar_n cI ab 8 im, tr_c xt ta tb td g mk ckd, ar_n cI ta 33 ft, ar_n cI tb 33 fc, ar_i cI td 2048 fr, sp_c xs sa sb sn sop, ar_b cZ sa 17 dl, ar_n cI sb 17 nu] := hD
  refine lv_aload_n hx hb dc_Ck_goBack_12 rfl (lv_at hl 0 rfl) ?_
  refine va_get (ci := 7) (v := .ref xt) (C := rn_Ck) (T := fd_Ck) (N := 5) hx hb hts in_Ck hown hK hP 0 rfl rfl 2 (by decide) (hts _ wd_578) (fun _ h9 => h9) rfl dc_Ck_goBack_13 ?_
  refine lv_aload_n hx hb dc_Ck_goBack_16 rfl (lv_at hl 0 rfl) ?_
  refine va_get (ci := 7) (v := .ref xc) (C := rn_Ck) (T := fd_Ck) (N := 5) hx hb hts in_Ck hown hK hP 0 rfl rfl 0 (by decide) (hts _ wd_576) (fun _ h9 => h9) rfl dc_Ck_goBack_17 ?_
  refine va_getN (ci := 2) (v := .int (nI cn)) (C := rn_Cl) (T := fd_Cl) (N := 4) hx hb hts in_Cl hown hK hP 1 rfl rfl 3 (by decide) (nf_74 hN) (fun _ h9 => h9) rfl dc_Ck_goBack_20 ?_
  refine kr_call1 (va_runSN (As := [.int (nI cn)]) (rest := [.ref xt]) ⟨hx, hb, hml, hown, hts⟩ (ct_Pt_one l D cI cZ _ cn (by omega)) ⟨va_cnB 1 hts (kx_gi wd_559) rfl rfl rfl (nw_600 hN) (hts _ wd_1) yd_Pt_one ⟨Nat.le_of_ble_eq_true rfl, Nat.le_of_ble_eq_true rfl⟩, hts _ wd_558, trivial⟩ (kp_S hP hD hK hN [] rfl rfl) rfl rfl hl.1 rfl (lv_room (Nat.le_of_ble_eq_true rfl)) dc_Ck_goBack_23 ⟨Nat.le_of_ble_eq_true rfl, Nat.le_of_ble_eq_true rfl⟩) ?_
  refine va_putN (ci := 5) (v := .long (lN (2 ^ cn))) (ty := .long) (C := rn_Tr) (T := fd_Tr) (N := 6) hx hb hts in_Tr ty_Tr tk_Tr nm_Tr hown hK hP hD hS 8 rfl rfl 4 (by decide) (nf_140 hN) (fun _ h9 => h9) rfl (by decide +kernel) rfl rfl (Nat.le_of_ble_eq_true rfl) dc_Ck_goBack_26 (fun H locs hP hD hS => ?_)
  have hP : va_P D kc_l [ck_c o xc xs xt xa (pt_live dl nu sn 1 (2 ^ (b + 1) - 2)), cl_c xc ca cb cd cn, ar_n cI ca 33 fz, ar_n cI cb 33 fs, ar_i cI cd (33 * 8) fl, as_c xa aa ab n t f, ar_n cI aa 8 rs, ar_n cI ab 8 im, tr_c xt ta tb td g (2 ^ cn) ckd, ar_n cI ta 33 ft, ar_n cI tb 33 fc, ar_i cI td 2048 fr, sp_c xs sa sb sn sop, ar_b cZ sa 17 dl, ar_n cI sb 17 nu] H := hP
  have hD : va_D A [ck_c o xc xs xt xa (pt_live dl nu sn 1 (2 ^ (b + 1) - 2)), cl_c xc ca cb cd cn, ar_n cI ca 33 fz, ar_n cI cb 33 fs, ar_i cI cd (33 * 8) fl, as_c xa aa ab n t f, ar_n cI aa 8 rs, ar_n cI ab 8 im, tr_c xt ta tb td g (2 ^ cn) ckd, ar_n cI ta 33 ft, ar_n cI tb 33 fc, ar_i cI td 2048 fr, sp_c xs sa sb sn sop, ar_b cZ sa 17 dl, ar_n cI sb 17 nu] := hD
  refine lv_aload_n hx hb dc_Ck_goBack_29 rfl (lv_at hl 0 rfl) ?_
  refine va_get (ci := 7) (v := .ref xs) (C := rn_Ck) (T := fd_Ck) (N := 5) hx hb hts in_Ck hown hK hP 0 rfl rfl 1 (by decide) (hts _ wd_577) (fun _ h9 => h9) rfl dc_Ck_goBack_30 ?_
  refine va_getN (ci := 4) (v := .int (nI sn)) (C := rn_Sp) (T := fd_Sp) (N := 4) hx hb hts in_Sp hown hK hP 12 rfl rfl 2 (by decide) (nf_116 hN) (fun _ h9 => h9) rfl dc_Ck_goBack_33 ?_
  refine lv_istore_n (lv' := [(2, .int (nI sn)), (0, .ref o), (1, .int (nI b))]) hx hb dc_Ck_goBack_36 rfl hl (by decide) rfl (fun ls hl => ?_)
  have lp_37 : ∀ (K : Nat) (k : Nat) (lk : Nat) (mk1 : Nat) (g1 : Nat) (ft1 : Nat → Nat) (fc1 : Nat → Nat) (fr1 : Nat → Int32) (n1 : Nat) (t1 : Nat) (f1 : Nat) (rs1 : Nat → Nat) (im1 : Nat → Nat) (H : Heap) (locs : List Loc) (ls : Array Slot), k < K → va_P D kc_l [ck_c o xc xs xt xa lk, cl_c xc ca cb cd cn, ar_n cI ca 33 fz, ar_n cI cb 33 fs, ar_i cI cd (33 * 8) fl, as_c xa aa ab n1 t1 f1, ar_n cI aa 8 rs1, ar_n cI ab 8 im1, tr_c xt ta tb td g1 mk1 ckd, ar_n cI ta 33 ft1, ar_n cI tb 33 fc1, ar_i cI td 2048 fr1, sp_c xs sa sb sn sop, ar_b cZ sa 17 dl, ar_n cI sb 17 nu] H → va_D A [ck_c o xc xs xt xa lk, cl_c xc ca cb cd cn, ar_n cI ca 33 fz, ar_n cI cb 33 fs, ar_i cI cd (33 * 8) fl, as_c xa aa ab n1 t1 f1, ar_n cI aa 8 rs1, ar_n cI ab 8 im1, tr_c xt ta tb td g1 mk1 ckd, ar_n cI ta 33 ft1, ar_n cI tb 33 fc1, ar_i cI td 2048 fr1, sp_c xs sa sb sn sop, ar_b cZ sa 17 dl, ar_n cI sb 17 nu] → va_S A s.heap H locs → lv_has ls 4 [(2, .int (nI k)), (0, .ref o), (1, .int (nI b))] → (pt_gb fs fz pb cn dl nu k lk mk1 g1 ft1 fc1 fr1 n1 t1 f1 rs1 im1 = pt_gb fs fz pb cn dl nu sn (pt_live dl nu sn 1 (2 ^ (b + 1) - 2)) (2 ^ cn) g ft fc fr n t f rs im) → (k ≤ sn) → (lk < 2 ^ 62) → (mk1 < 2 ^ 62) → W p l e ({ frames := 5, cells := 0, slots := 0, locals := 123 } : Room) s m ([.ref o, .int (nI b)] : List Value).toArray below meth c H locs 0 0 (MQ below (kw_q (some (.int (nI ((pt_gb fs fz pb cn dl nu sn (pt_live dl nu sn 1 (2 ^ (b + 1) - 2)) (2 ^ cn) g ft fc fr n t f rs im).1)))) D kc_l [ck_c o xc xs xt xa ((pt_gb fs fz pb cn dl nu sn (pt_live dl nu sn 1 (2 ^ (b + 1) - 2)) (2 ^ cn) g ft fc fr n t f rs im).2.1), cl_c xc ca cb cd cn, ar_n cI ca 33 fz, ar_n cI cb 33 fs, ar_i cI cd (33 * 8) fl, as_c xa aa ab ((pt_gb fs fz pb cn dl nu sn (pt_live dl nu sn 1 (2 ^ (b + 1) - 2)) (2 ^ cn) g ft fc fr n t f rs im).2.2.2.2.2.2.2.1) ((pt_gb fs fz pb cn dl nu sn (pt_live dl nu sn 1 (2 ^ (b + 1) - 2)) (2 ^ cn) g ft fc fr n t f rs im).2.2.2.2.2.2.2.2.1) ((pt_gb fs fz pb cn dl nu sn (pt_live dl nu sn 1 (2 ^ (b + 1) - 2)) (2 ^ cn) g ft fc fr n t f rs im).2.2.2.2.2.2.2.2.2.1), ar_n cI aa 8 ((pt_gb fs fz pb cn dl nu sn (pt_live dl nu sn 1 (2 ^ (b + 1) - 2)) (2 ^ cn) g ft fc fr n t f rs im).2.2.2.2.2.2.2.2.2.2.1), ar_n cI ab 8 ((pt_gb fs fz pb cn dl nu sn (pt_live dl nu sn 1 (2 ^ (b + 1) - 2)) (2 ^ cn) g ft fc fr n t f rs im).2.2.2.2.2.2.2.2.2.2.2), tr_c xt ta tb td ((pt_gb fs fz pb cn dl nu sn (pt_live dl nu sn 1 (2 ^ (b + 1) - 2)) (2 ^ cn) g ft fc fr n t f rs im).2.2.2.1) ((pt_gb fs fz pb cn dl nu sn (pt_live dl nu sn 1 (2 ^ (b + 1) - 2)) (2 ^ cn) g ft fc fr n t f rs im).2.2.1) ckd, ar_n cI ta 33 ((pt_gb fs fz pb cn dl nu sn (pt_live dl nu sn 1 (2 ^ (b + 1) - 2)) (2 ^ cn) g ft fc fr n t f rs im).2.2.2.2.1), ar_n cI tb 33 ((pt_gb fs fz pb cn dl nu sn (pt_live dl nu sn 1 (2 ^ (b + 1) - 2)) (2 ^ cn) g ft fc fr n t f rs im).2.2.2.2.2.1), ar_i cI td 2048 ((pt_gb fs fz pb cn dl nu sn (pt_live dl nu sn 1 (2 ^ (b + 1) - 2)) (2 ^ cn) g ft fc fr n t f rs im).2.2.2.2.2.2.1), sp_c xs sa sb sn sop, ar_b cZ sa 17 dl, ar_n cI sb 17 nu] A) ([.ref o, .int (nI b)] : List Value).toArray s 0 0 A) (F0 m 37 ls []) := by
    intro K
    induction K with
    | zero =>
      intro k lk mk1 g1 ft1 fc1 fr1 n1 t1 f1 rs1 im1 H locs ls hk
      exact absurd hk (Nat.not_lt_zero _)
    | succ K ih_37 =>
      intro k lk mk1 g1 ft1 fc1 fr1 n1 t1 f1 rs1 im1 H locs ls hk hP hD hS hl h1 h2 hl62 hm62
      refine lv_iload_n hx hb dc_Ck_goBack_37 rfl (lv_at hl 0 rfl) ?_
      refine lv_iconst (v := nI 1) hx hb dc_Ck_goBack_38 (by decide +kernel) ?_
      refine kn_icmp_lt hx hb (by omega) (by omega) dc_Ck_goBack_39 rfl (fun hc39 => ?_) (fun hc39 => ?_)
      · refine lv_iconst (v := nI 0) hx hb dc_Ck_goBack_127 (by decide +kernel) ?_
        exact kw_iret hx hb hr hlocks hP hD hS dc_Ck_goBack_128 (by rw [← h1, show k = 0 by omega]; rfl) (by rw [← h1, show k = 0 by omega]; rfl)
      · obtain ⟨q, hq⟩ : ∃ q, k = q + 1 := ⟨k - 1, by omega⟩
        refine lv_aload_n hx hb dc_Ck_goBack_42 rfl (lv_at hl 1 rfl) ?_
        refine va_get (ci := 7) (v := .ref xs) (C := rn_Ck) (T := fd_Ck) (N := 5) hx hb hts in_Ck hown hK hP 0 rfl rfl 1 (by decide) (hts _ wd_577) (fun _ h9 => h9) rfl dc_Ck_goBack_43 ?_
        refine va_getN (ci := 4) (v := .ref sb) (C := rn_Sp) (T := fd_Sp) (N := 4) hx hb hts in_Sp hown hK hP 12 rfl rfl 1 (by decide) (nf_112 hN) (fun _ h9 => h9) rfl dc_Ck_goBack_46 ?_
        refine lv_iload_n hx hb dc_Ck_goBack_49 rfl (lv_at hl 0 rfl) ?_
        refine ka_nald (t := nu) hx hb hK hP 14 0 rfl rfl (j := k) (by omega) (by omega) dc_Ck_goBack_50 ?_
        refine lv_istore_n (lv' := [(3, .int (nI (nu k))), (2, .int (nI k)), (0, .ref o), (1, .int (nI b))]) hx hb dc_Ck_goBack_51 rfl hl (by decide) rfl (fun ls hl => ?_)
        refine lv_aload_n hx hb dc_Ck_goBack_52 rfl (lv_at hl 2 rfl) ?_
        refine va_get (ci := 7) (v := .ref xs) (C := rn_Ck) (T := fd_Ck) (N := 5) hx hb hts in_Ck hown hK hP 0 rfl rfl 1 (by decide) (hts _ wd_577) (fun _ h9 => h9) rfl dc_Ck_goBack_53 ?_
        refine va_getN (ci := 4) (v := .ref sa) (C := rn_Sp) (T := fd_Sp) (N := 4) hx hb hts in_Sp hown hK hP 12 rfl rfl 0 (by decide) (nf_108 hN) (fun _ h9 => h9) rfl dc_Ck_goBack_56 ?_
        refine lv_iload_n hx hb dc_Ck_goBack_59 rfl (lv_at hl 1 rfl) ?_
        refine ka_bald (t := dl) hx hb hK hP 13 1 rfl rfl (j := k) (by omega) (by omega) dc_Ck_goBack_60 ?_
        refine kb_if_eq hx hb dc_Ck_goBack_61 rfl (fun hc61 => ?_) (fun hc61 => ?_)
        · have hc61 : dl k = false := hc61
          refine lv_aload_n hx hb dc_Ck_goBack_80 rfl (lv_at hl 2 rfl) ?_
          refine lv_dup hx hb dc_Ck_goBack_81 rfl ?_
          refine va_get (ci := 7) (v := .long (lN lk)) (C := rn_Ck) (T := fd_Ck) (N := 5) hx hb hts in_Ck hown hK hP 0 rfl rfl 4 (by decide) (hts _ wd_580) (fun _ h9 => h9) rfl dc_Ck_goBack_82 ?_
          refine lv_iload_n hx hb dc_Ck_goBack_85 rfl (lv_at hl 0 rfl) ?_
          refine kr_call1 (va_runSN (As := [.int (nI (nu k))]) (rest := [.long (lN lk), .ref o]) ⟨hx, hb, hml, hown, hts⟩ (ct_Pt_one l D cI cZ _ (nu k) (by have := hnu k (by omega) (by omega); omega)) ⟨va_cnB 1 hts (kx_gi wd_559) rfl rfl rfl (nw_600 hN) (hts _ wd_1) yd_Pt_one ⟨Nat.le_of_ble_eq_true rfl, Nat.le_of_ble_eq_true rfl⟩, hts _ wd_558, trivial⟩ (kp_S hP hD hK hN [] rfl rfl) rfl rfl hl.1 rfl (lv_room (Nat.le_of_ble_eq_true rfl)) dc_Ck_goBack_86 ⟨Nat.le_of_ble_eq_true rfl, Nat.le_of_ble_eq_true rfl⟩) ?_
          refine kl_ldc2 (y := (-1)) hx hb hown (hts _ wd_601) dc_Ck_goBack_89 (by decide +kernel) ?_
          refine lv_lxor hx hb dc_Ck_goBack_92 ?_
          refine kl_lnot hx hb dc_Ck_goBack_93 ?_
          refine va_put (ci := 7) (v := .long (lN (nb_d lk (2 ^ (nu k))))) (ty := .long) (C := rn_Ck) (T := fd_Ck) (N := 5) hx hb hts in_Ck ty_Ck tk_Ck nm_Ck hown hK hP hD hS 0 rfl rfl 4 (by decide) (hts _ wd_580) (fun _ h9 => h9) rfl (by decide +kernel) rfl rfl (Nat.le_of_ble_eq_true rfl) dc_Ck_goBack_94 (fun H locs hP hD hS => ?_)
          have hP : va_P D kc_l [ck_c o xc xs xt xa (nb_d lk (2 ^ (nu k))), cl_c xc ca cb cd cn, ar_n cI ca 33 fz, ar_n cI cb 33 fs, ar_i cI cd (33 * 8) fl, as_c xa aa ab n1 t1 f1, ar_n cI aa 8 rs1, ar_n cI ab 8 im1, tr_c xt ta tb td g1 mk1 ckd, ar_n cI ta 33 ft1, ar_n cI tb 33 fc1, ar_i cI td 2048 fr1, sp_c xs sa sb sn sop, ar_b cZ sa 17 dl, ar_n cI sb 17 nu] H := hP
          have hD : va_D A [ck_c o xc xs xt xa (nb_d lk (2 ^ (nu k))), cl_c xc ca cb cd cn, ar_n cI ca 33 fz, ar_n cI cb 33 fs, ar_i cI cd (33 * 8) fl, as_c xa aa ab n1 t1 f1, ar_n cI aa 8 rs1, ar_n cI ab 8 im1, tr_c xt ta tb td g1 mk1 ckd, ar_n cI ta 33 ft1, ar_n cI tb 33 fc1, ar_i cI td 2048 fr1, sp_c xs sa sb sn sop, ar_b cZ sa 17 dl, ar_n cI sb 17 nu] := hD
          refine lv_aload_n hx hb dc_Ck_goBack_97 rfl (lv_at hl 2 rfl) ?_
          refine va_get (ci := 7) (v := .ref xt) (C := rn_Ck) (T := fd_Ck) (N := 5) hx hb hts in_Ck hown hK hP 0 rfl rfl 2 (by decide) (hts _ wd_578) (fun _ h9 => h9) rfl dc_Ck_goBack_98 ?_
          refine va_getN (ci := 5) (v := .long (lN mk1)) (C := rn_Tr) (T := fd_Tr) (N := 6) hx hb hts in_Tr hown hK hP 8 rfl rfl 4 (by decide) (nf_140 hN) (fun _ h9 => h9) rfl dc_Ck_goBack_101 ?_
          refine lv_iload_n hx hb dc_Ck_goBack_104 rfl (lv_at hl 0 rfl) ?_
          refine kr_call1 (va_runSN (As := [.long (lN mk1), .int (nI (nu k))]) (rest := []) ⟨hx, hb, hml, hown, hts⟩ (ct_Pt_contains l D cI cZ _ mk1 (nu k) (hm62) (by have := hnu k (by omega) (by omega); omega)) ⟨va_cnB 2 hts (kx_gi wd_262) rfl rfl rfl (nw_602 hN) (hts _ wd_1) yd_Pt_contains ⟨Nat.le_of_ble_eq_true rfl, Nat.le_of_ble_eq_true rfl⟩, hts _ wd_261, trivial⟩ (kp_S hP hD hK hN [] rfl rfl) rfl rfl hl.1 rfl (lv_room (Nat.le_of_ble_eq_true rfl)) dc_Ck_goBack_105 ⟨Nat.le_of_ble_eq_true rfl, Nat.le_of_ble_eq_true rfl⟩) ?_
          refine kb_if_eq hx hb dc_Ck_goBack_108 rfl (fun hc108 => ?_) (fun hc108 => ?_)
          · refine lv_iinc (k := 1) (v := nI (k - 1)) (lv' := [(2, .int (nI (k - 1))), (3, .int (nI (nu k))), (0, .ref o), (1, .int (nI b))]) hx hb dc_Ck_goBack_121 hl rfl (kn_dec (by omega)) (by decide) rfl (fun ls hl => ?_)
            refine lv_goto hx hb dc_Ck_goBack_124 rfl ?_
            have hl := lv_sub (l' := [(2, .int (nI (k - 1))), (0, .ref o), (1, .int (nI b))]) hl [0, 2, 3] rfl
            exact ih_37 _ _ _ _ _ _ _ _ _ _ _ _ _ _ _ (by omega) hP hD hS hl (by rw [← h1, show k - 1 = q by omega]; conv => rhs; rw [hq, pt_gb, ← hq, if_neg (by rw [hc61]; decide), if_pos hc108]) (by omega) (nb_d_lt hl62) (hm62)
          · have hgr : pt_gb fs fz pb cn dl nu k lk mk1 g1 ft1 fc1 fr1 n1 t1 f1 rs1 im1 = (if (pt_right fs (nb_d lk (2 ^ (nu k))) mk1 cn (fz (nu k)) (pb (nu k)) (fs (nu k)) rs1 im1).1 = true then pt_gb fs fz pb cn dl nu q (nb_d lk (2 ^ nu k)) (pt_right fs (nb_d lk (2 ^ (nu k))) mk1 cn (fz (nu k)) (pb (nu k)) (fs (nu k)) rs1 im1).2.1 (g1 + (pt_right fs (nb_d lk (2 ^ (nu k))) mk1 cn (fz (nu k)) (pb (nu k)) (fs (nu k)) rs1 im1).2.2.1.length) (va_up ft1 (nu k) g1) (va_up fc1 (nu k) (fc1 (nu k) + (pt_right fs (nb_d lk (2 ^ (nu k))) mk1 cn (fz (nu k)) (pb (nu k)) (fs (nu k)) rs1 im1).2.2.1.length)) (pt_put fr1 g1 (pt_right fs (nb_d lk (2 ^ (nu k))) mk1 cn (fz (nu k)) (pb (nu k)) (fs (nu k)) rs1 im1).2.2.1) (pt_right fs (nb_d lk (2 ^ (nu k))) mk1 cn (fz (nu k)) (pb (nu k)) (fs (nu k)) rs1 im1).2.2.2.1 (pt_right fs (nb_d lk (2 ^ (nu k))) mk1 cn (fz (nu k)) (pb (nu k)) (fs (nu k)) rs1 im1).2.2.2.2.1 (pt_right fs (nb_d lk (2 ^ (nu k))) mk1 cn (fz (nu k)) (pb (nu k)) (fs (nu k)) rs1 im1).2.2.2.2.2.1 (pt_right fs (nb_d lk (2 ^ (nu k))) mk1 cn (fz (nu k)) (pb (nu k)) (fs (nu k)) rs1 im1).2.2.2.2.2.2.1 (pt_right fs (nb_d lk (2 ^ (nu k))) mk1 cn (fz (nu k)) (pb (nu k)) (fs (nu k)) rs1 im1).2.2.2.2.2.2.2 else (k, nb_d lk (2 ^ nu k), (pt_right fs (nb_d lk (2 ^ (nu k))) mk1 cn (fz (nu k)) (pb (nu k)) (fs (nu k)) rs1 im1).2.1, g1 + (pt_right fs (nb_d lk (2 ^ (nu k))) mk1 cn (fz (nu k)) (pb (nu k)) (fs (nu k)) rs1 im1).2.2.1.length, va_up ft1 (nu k) g1, va_up fc1 (nu k) (fc1 (nu k) + (pt_right fs (nb_d lk (2 ^ (nu k))) mk1 cn (fz (nu k)) (pb (nu k)) (fs (nu k)) rs1 im1).2.2.1.length), pt_put fr1 g1 (pt_right fs (nb_d lk (2 ^ (nu k))) mk1 cn (fz (nu k)) (pb (nu k)) (fs (nu k)) rs1 im1).2.2.1, (pt_right fs (nb_d lk (2 ^ (nu k))) mk1 cn (fz (nu k)) (pb (nu k)) (fs (nu k)) rs1 im1).2.2.2.1, (pt_right fs (nb_d lk (2 ^ (nu k))) mk1 cn (fz (nu k)) (pb (nu k)) (fs (nu k)) rs1 im1).2.2.2.2.1, (pt_right fs (nb_d lk (2 ^ (nu k))) mk1 cn (fz (nu k)) (pb (nu k)) (fs (nu k)) rs1 im1).2.2.2.2.2.1, (pt_right fs (nb_d lk (2 ^ (nu k))) mk1 cn (fz (nu k)) (pb (nu k)) (fs (nu k)) rs1 im1).2.2.2.2.2.2.1, (pt_right fs (nb_d lk (2 ^ (nu k))) mk1 cn (fz (nu k)) (pb (nu k)) (fs (nu k)) rs1 im1).2.2.2.2.2.2.2)) := by
              rw [hq, pt_gb, ← hq, if_neg (by rw [hc61]; decide), if_neg (by rw [hc108]; decide)]
            have hfz : g1 + (pt_right fs (nb_d lk (2 ^ (nu k))) mk1 cn (fz (nu k)) (pb (nu k)) (fs (nu k)) rs1 im1).2.2.1.length ≤ 2048 := by
              refine Nat.le_trans ?_ hfit
              rw [← h1, hgr]
              split
              · exact gb_len _ _ _ _ _ _ _ _ _ _ _ _
              · exact Nat.le_refl _
            refine lv_aload_n hx hb dc_Ck_goBack_111 rfl (lv_at hl 2 rfl) ?_
            refine lv_iload_n hx hb dc_Ck_goBack_112 rfl (lv_at hl 0 rfl) ?_
            refine kw_call1 (wr := [sp_c xs sa sb sn sop, ar_b cZ sa 17 dl, ar_n cI sb 17 nu]) (ws' := [ck_c o xc xs xt xa (nb_d lk (2 ^ (nu k))), cl_c xc ca cb cd cn, ar_n cI ca 33 fz, ar_n cI cb 33 fs, ar_i cI cd (33 * 8) fl, as_c xa aa ab ((pt_right fs (nb_d lk (2 ^ (nu k))) mk1 cn (fz (nu k)) (pb (nu k)) (fs (nu k)) rs1 im1).2.2.2.1) ((pt_right fs (nb_d lk (2 ^ (nu k))) mk1 cn (fz (nu k)) (pb (nu k)) (fs (nu k)) rs1 im1).2.2.2.2.1) ((pt_right fs (nb_d lk (2 ^ (nu k))) mk1 cn (fz (nu k)) (pb (nu k)) (fs (nu k)) rs1 im1).2.2.2.2.2.1), ar_n cI aa 8 ((pt_right fs (nb_d lk (2 ^ (nu k))) mk1 cn (fz (nu k)) (pb (nu k)) (fs (nu k)) rs1 im1).2.2.2.2.2.2.1), ar_n cI ab 8 ((pt_right fs (nb_d lk (2 ^ (nu k))) mk1 cn (fz (nu k)) (pb (nu k)) (fs (nu k)) rs1 im1).2.2.2.2.2.2.2), tr_c xt ta tb td (g1 + (pt_right fs (nb_d lk (2 ^ (nu k))) mk1 cn (fz (nu k)) (pb (nu k)) (fs (nu k)) rs1 im1).2.2.1.length) ((pt_right fs (nb_d lk (2 ^ (nu k))) mk1 cn (fz (nu k)) (pb (nu k)) (fs (nu k)) rs1 im1).2.1) ckd, ar_n cI ta 33 (va_up ft1 (nu k) g1), ar_n cI tb 33 (va_up fc1 (nu k) (fc1 (nu k) + (pt_right fs (nb_d lk (2 ^ (nu k))) mk1 cn (fz (nu k)) (pb (nu k)) (fs (nu k)) rs1 im1).2.2.1.length)), ar_i cI td 2048 (pt_put fr1 g1 (pt_right fs (nb_d lk (2 ^ (nu k))) mk1 cn (fz (nu k)) (pb (nu k)) (fs (nu k)) rs1 im1).2.2.1), sp_c xs sa sb sn sop, ar_b cZ sa 17 dl, ar_n cI sb 17 nu]) (va_runV (As := [.int (nI (nu k))]) (rest := []) ⟨hx, hb, hml, hown, hts⟩ (ct_Ck_isRight l D cI cZ _ o xc xs xt xa (nb_d lk (2 ^ (nu k))) ca cb cd cn fz fs fl aa ab n1 t1 f1 rs1 im1 ta tb td g1 mk1 ckd ft1 fc1 fr1 (nu k) (qb (nu k)) (pb (nu k)) (hcn) (h16) (nb_d_lt hl62) (hz) (hadd k (by omega) (by omega) hc61) (hnu k (by omega) (by omega)) (hlit (nu k) (hadd k (by omega) (by omega) hc61) (hnu k (by omega) (by omega))) (hfz)) (cwV 1 hts (kx_gV wd_603 wd_605 (kx_sel (q := (yn_Ck_isRight, 5)) (List.mem_append_left _ (List.mem_of_getElem? (i := 3) rfl))) wd_20 wd_606) rfl rfl rfl ⟨rfl, yd_Ck_isRight⟩ ⟨Nat.le_of_ble_eq_true rfl, Nat.le_of_ble_eq_true rfl⟩) (kp_V (q0 := 0) (ci := 7) hP hD hK hN [0, 1, 2, 3, 4, 5, 6, 7, 8, 9, 10, 11] rfl rfl rfl rfl rfl) rfl rfl hl.1 rfl (lv_room (Nat.le_of_ble_eq_true rfl)) dc_Ck_goBack_113 ⟨Nat.le_of_ble_eq_true rfl, Nat.le_of_ble_eq_true rfl⟩) hP hD hS hA [0, 1, 2, 3, 4, 5, 6, 7, 8, 9, 10, 11] [12, 13, 14] [3, 4, 5, 6, 7, 8, 9, 10, 11, 12, 13, 14, 0, 1, 2] rfl rfl rfl (by decide) rfl rfl (fun H locs hP hD hS => ?_)
            have hmk := right_mk (fs := fs) (lv := nb_d lk (2 ^ nu k)) (mk := mk1) (cn := cn) (w := fz (nu k)) (pb := pb (nu k)) (x := fs (nu k)) (rs := rs1) (im := im1) h16 (h16 _) hcn (Or.inr rfl) hm62
            generalize hRz : pt_right fs (nb_d lk (2 ^ (nu k))) mk1 cn (fz (nu k)) (pb (nu k)) (fs (nu k)) rs1 im1 = ZZ at hP hD hgr hfz hmk ⊢
            refine kb_if_ne hx hb dc_Ck_goBack_116 rfl (fun hc116 => ?_) (fun hc116 => ?_)
            · refine lv_iinc (k := 1) (v := nI (k - 1)) (lv' := [(2, .int (nI (k - 1))), (3, .int (nI (nu k))), (0, .ref o), (1, .int (nI b))]) hx hb dc_Ck_goBack_121 hl rfl (kn_dec (by omega)) (by decide) rfl (fun ls hl => ?_)
              refine lv_goto hx hb dc_Ck_goBack_124 rfl ?_
              have hl := lv_sub (l' := [(2, .int (nI (k - 1))), (0, .ref o), (1, .int (nI b))]) hl [0, 2, 3] rfl
              exact ih_37 _ _ _ _ _ _ _ _ _ _ _ _ _ _ _ (by omega) hP hD hS hl (by rw [← h1, show k - 1 = q by omega, hgr, if_pos hc116]) (by omega) (nb_d_lt hl62) (hmk)
            · refine lv_iload_n hx hb dc_Ck_goBack_119 rfl (lv_at hl 1 rfl) ?_
              exact kw_iret hx hb hr hlocks hP hD hS dc_Ck_goBack_120 (by rw [← h1, hgr, if_neg (by rw [hc116]; decide)]) (by rw [← h1, hgr, if_neg (by rw [hc116]; decide)])
        · have hc61 : dl k = true := hc61
          refine lv_aload_n hx hb dc_Ck_goBack_64 rfl (lv_at hl 2 rfl) ?_
          refine lv_dup hx hb dc_Ck_goBack_65 rfl ?_
          refine va_get (ci := 7) (v := .long (lN lk)) (C := rn_Ck) (T := fd_Ck) (N := 5) hx hb hts in_Ck hown hK hP 0 rfl rfl 4 (by decide) (hts _ wd_580) (fun _ h9 => h9) rfl dc_Ck_goBack_66 ?_
          refine lv_iload_n hx hb dc_Ck_goBack_69 rfl (lv_at hl 0 rfl) ?_
          refine kr_call1 (va_runSN (As := [.int (nI (nu k))]) (rest := [.long (lN lk), .ref o]) ⟨hx, hb, hml, hown, hts⟩ (ct_Pt_one l D cI cZ _ (nu k) (by have := hnu k (by omega) (by omega); omega)) ⟨va_cnB 1 hts (kx_gi wd_559) rfl rfl rfl (nw_600 hN) (hts _ wd_1) yd_Pt_one ⟨Nat.le_of_ble_eq_true rfl, Nat.le_of_ble_eq_true rfl⟩, hts _ wd_558, trivial⟩ (kp_S hP hD hK hN [] rfl rfl) rfl rfl hl.1 rfl (lv_room (Nat.le_of_ble_eq_true rfl)) dc_Ck_goBack_70 ⟨Nat.le_of_ble_eq_true rfl, Nat.le_of_ble_eq_true rfl⟩) ?_
          refine kl_lor hx hb dc_Ck_goBack_73 ?_
          refine va_put (ci := 7) (v := .long (lN (lk ||| (2 ^ (nu k))))) (ty := .long) (C := rn_Ck) (T := fd_Ck) (N := 5) hx hb hts in_Ck ty_Ck tk_Ck nm_Ck hown hK hP hD hS 0 rfl rfl 4 (by decide) (hts _ wd_580) (fun _ h9 => h9) rfl (by decide +kernel) rfl rfl (Nat.le_of_ble_eq_true rfl) dc_Ck_goBack_74 (fun H locs hP hD hS => ?_)
          have hP : va_P D kc_l [ck_c o xc xs xt xa (lk ||| (2 ^ (nu k))), cl_c xc ca cb cd cn, ar_n cI ca 33 fz, ar_n cI cb 33 fs, ar_i cI cd (33 * 8) fl, as_c xa aa ab n1 t1 f1, ar_n cI aa 8 rs1, ar_n cI ab 8 im1, tr_c xt ta tb td g1 mk1 ckd, ar_n cI ta 33 ft1, ar_n cI tb 33 fc1, ar_i cI td 2048 fr1, sp_c xs sa sb sn sop, ar_b cZ sa 17 dl, ar_n cI sb 17 nu] H := hP
          have hD : va_D A [ck_c o xc xs xt xa (lk ||| (2 ^ (nu k))), cl_c xc ca cb cd cn, ar_n cI ca 33 fz, ar_n cI cb 33 fs, ar_i cI cd (33 * 8) fl, as_c xa aa ab n1 t1 f1, ar_n cI aa 8 rs1, ar_n cI ab 8 im1, tr_c xt ta tb td g1 mk1 ckd, ar_n cI ta 33 ft1, ar_n cI tb 33 fc1, ar_i cI td 2048 fr1, sp_c xs sa sb sn sop, ar_b cZ sa 17 dl, ar_n cI sb 17 nu] := hD
          refine lv_goto hx hb dc_Ck_goBack_77 rfl ?_
          refine lv_iinc (k := 1) (v := nI (k - 1)) (lv' := [(2, .int (nI (k - 1))), (3, .int (nI (nu k))), (0, .ref o), (1, .int (nI b))]) hx hb dc_Ck_goBack_121 hl rfl (kn_dec (by omega)) (by decide) rfl (fun ls hl => ?_)
          refine lv_goto hx hb dc_Ck_goBack_124 rfl ?_
          have hl := lv_sub (l' := [(2, .int (nI (k - 1))), (0, .ref o), (1, .int (nI b))]) hl [0, 2, 3] rfl
          exact ih_37 _ _ _ _ _ _ _ _ _ _ _ _ _ _ _ (by omega) hP hD hS hl (by rw [← h1, show k - 1 = q by omega]; conv => rhs; rw [hq, pt_gb, ← hq, if_pos hc61]) (by omega) (Nat.or_lt_two_pow hl62 (Nat.pow_lt_pow_right (by decide) (by have := hnu k (by omega) (by omega); omega))) (hm62)
  exact lp_37 _ _ _ _ _ _ _ _ _ _ _ _ _ _ _ _ (Nat.lt_succ_self _) hP hD hS hl (rfl) (by omega) (Nat.lt_trans hl0 (by decide)) (Nat.pow_lt_pow_right (by decide) (by omega))

set_option maxHeartbeats 4000000 in
set_option maxRecDepth 100000 in
theorem ct_Ck_init (l : Launch) (D : va_G) (cI cZ : ClassId) (sz : Nat) (o : Nat) (xc : Nat) (xs : Nat) (xt : Nat) (xa : Nat)  : Met l yn_Ck_init (Cond.code yn_Ck_init bc_Ck_init 5 none :: kx_all) ({ frames := 1, cells := 0, slots := 0, locals := 12 } : Room) (kp [.ref o, .ref xc, .ref xs, .ref xt, .ref xa] D cI cZ [(o, .inr (7, [.null, .null, .null, .null, .long 0]))] sz) (kw_q none D kc_l [ck_c o xc xs xt xa 0] (va_A [(o, .inr (7, [.null, .null, .null, .null, .long 0]))] sz)) 0 0 (va_A [(o, .inr (7, [.null, .null, .null, .null, .long 0]))] sz) := by
  refine kx_metW (by decide) (Nat.le_of_ble_eq_true rfl) ?_
  intro p e s m below meth c ls A hx hb hr hml hts hown hlocks hin hA hP hK hD hN hl hS
  have hown : s.vm.findClass rn_Ck = some m.cls := hown
  have hl : lv_has ls 5 [(0, .ref o), (1, .ref xc), (2, .ref xs), (3, .ref xt), (4, .ref xa)] := hl
  refine lv_aload_n hx hb dc_Ck_init_0 rfl (lv_at hl 0 rfl) ?_
  refine W.objInit hx hb hown (hts _ wd_575) (hts _ wd_29) (hts _ wd_30) rfl (by rw [hml]; exact hl.1) rfl dc_Ck_init_1 (Nat.le_of_ble_eq_true rfl) (Nat.le_of_ble_eq_true rfl) ?_
  refine W.eq (g2 := F0 m 4 ls []) rfl ?_
  refine lv_aload_n hx hb dc_Ck_init_4 rfl (lv_at hl 0 rfl) ?_
  refine lv_aload_n hx hb dc_Ck_init_5 rfl (lv_at hl 1 rfl) ?_
  refine va_putF (ci := 7) (v := .ref xc) (ty := .object "ProofTrimmer$Clauses") (C := rn_Ck) (T := fd_Ck) (N := 5) hx hb hts in_Ck ty_Ck tk_Ck nm_Ck hown hK hP hD hS 0 rfl rfl 0 (by decide) (hts _ wd_576) (fun _ h9 => h9) rfl hin rfl (by decide +kernel) rfl rfl (Nat.le_of_ble_eq_true rfl) dc_Ck_init_6 (fun H locs hP hD hS => ?_)
  have hP : va_P D kc_l [(o, .inr (7, [.ref xc, .null, .null, .null, .long 0]))] H := hP
  have hD : va_D A [(o, .inr (7, [.ref xc, .null, .null, .null, .long 0]))] := hD
  refine lv_aload_n hx hb dc_Ck_init_9 rfl (lv_at hl 0 rfl) ?_
  refine lv_aload_n hx hb dc_Ck_init_10 rfl (lv_at hl 2 rfl) ?_
  refine va_putF (ci := 7) (v := .ref xs) (ty := .object "ProofTrimmer$Steps") (C := rn_Ck) (T := fd_Ck) (N := 5) hx hb hts in_Ck ty_Ck tk_Ck nm_Ck hown hK hP hD hS 0 rfl rfl 1 (by decide) (hts _ wd_577) (fun _ h9 => h9) rfl hin rfl (by decide +kernel) rfl rfl (Nat.le_of_ble_eq_true rfl) dc_Ck_init_11 (fun H locs hP hD hS => ?_)
  have hP : va_P D kc_l [(o, .inr (7, [.ref xc, .ref xs, .null, .null, .long 0]))] H := hP
  have hD : va_D A [(o, .inr (7, [.ref xc, .ref xs, .null, .null, .long 0]))] := hD
  refine lv_aload_n hx hb dc_Ck_init_14 rfl (lv_at hl 0 rfl) ?_
  refine lv_aload_n hx hb dc_Ck_init_15 rfl (lv_at hl 3 rfl) ?_
  refine va_putF (ci := 7) (v := .ref xt) (ty := .object "ProofTrimmer$Trace") (C := rn_Ck) (T := fd_Ck) (N := 5) hx hb hts in_Ck ty_Ck tk_Ck nm_Ck hown hK hP hD hS 0 rfl rfl 2 (by decide) (hts _ wd_578) (fun _ h9 => h9) rfl hin rfl (by decide +kernel) rfl rfl (Nat.le_of_ble_eq_true rfl) dc_Ck_init_16 (fun H locs hP hD hS => ?_)
  have hP : va_P D kc_l [(o, .inr (7, [.ref xc, .ref xs, .ref xt, .null, .long 0]))] H := hP
  have hD : va_D A [(o, .inr (7, [.ref xc, .ref xs, .ref xt, .null, .long 0]))] := hD
  refine lv_aload_n hx hb dc_Ck_init_19 rfl (lv_at hl 0 rfl) ?_
  refine lv_aload hx hb dc_Ck_init_20 (lv_at hl 4 rfl) ?_
  refine va_putF (ci := 7) (v := .ref xa) (ty := .object "ProofTrimmer$Assignment") (C := rn_Ck) (T := fd_Ck) (N := 5) hx hb hts in_Ck ty_Ck tk_Ck nm_Ck hown hK hP hD hS 0 rfl rfl 3 (by decide) (hts _ wd_579) (fun _ h9 => h9) rfl hin rfl (by decide +kernel) rfl rfl (Nat.le_of_ble_eq_true rfl) dc_Ck_init_22 (fun H locs hP hD hS => ?_)
  have hP : va_P D kc_l [(o, .inr (7, [.ref xc, .ref xs, .ref xt, .ref xa, .long 0]))] H := hP
  have hD : va_D A [(o, .inr (7, [.ref xc, .ref xs, .ref xt, .ref xa, .long 0]))] := hD
  exact kw_vret hx hb hr hlocks hP hD hS dc_Ck_init_25 (rfl)
