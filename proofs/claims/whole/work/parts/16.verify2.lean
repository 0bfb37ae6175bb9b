/-! the other way: partners, a clause, all of them -/
theorem hv_lt {ft fc : Nat → Nat} {fr : Nat → Int32} {j k : Nat} (h : ¬ pt_hv ft fc fr j k = 0) : k < pt_hc fc j := by
  unfold pt_hv at h
  by_cases hk : k < pt_hc fc j
  · exact hk
  · rw [if_neg hk] at h; exact absurd rfl h
theorem neg_n0 : ∀ p, p < 33 → 1 ≤ p → ¬ -nI p = 0 := by decide +kernel
section VP
variable {fs : Nat → Nat} {lv cn pv rc : Nat} {hv : Nat → Int32} {hc p nx : Nat} {cf : Bool} {n t f : Nat} {rs im : Nat → Nat}
theorem vp_no (h : p ≤ cn) (hp : lv.testBit p = false ∨ fs p &&& pv = 0) : pt_vp fs lv cn pv rc hv hc (cn + 1 - p) p nx cf n t f rs im = pt_vp fs lv cn pv rc hv hc (cn + 1 - (p + 1)) (p + 1) nx cf n t f rs im := by
  rw [show cn + 1 - p = (cn + 1 - (p + 1)) + 1 by omega, pt_vp, if_pos hp]
theorem vp_hint (h : p ≤ cn) (hp : ¬ (lv.testBit p = false ∨ fs p &&& pv = 0)) (hh : ¬ hv nx = -nI p) : pt_vp fs lv cn pv rc hv hc (cn + 1 - p) p nx cf n t f rs im = (false, nx, cf, n, t, f, rs, im) := by
  rw [show cn + 1 - p = (cn + 1 - (p + 1)) + 1 by omega, pt_vp, if_neg hp, if_pos hh]
theorem vp_true (h : p ≤ cn) (hp : ¬ (lv.testBit p = false ∨ fs p &&& pv = 0)) (hh : hv nx = -nI p) (ho : ¬ nb_d (fs p) pv &&& rc = 0) : pt_vp fs lv cn pv rc hv hc (cn + 1 - p) p nx cf n t f rs im = pt_vp fs lv cn pv rc hv hc (cn + 1 - (p + 1)) (p + 1) (nx + 1) cf n t f rs im := by
  rw [show cn + 1 - p = (cn + 1 - (p + 1)) + 1 by omega, pt_vp, if_neg hp, if_neg (fun q => q hh), if_pos ho]
theorem vp_go (h : p ≤ cn) (hp : ¬ (lv.testBit p = false ∨ fs p &&& pv = 0)) (hh : hv nx = -nI p) (ho : nb_d (fs p) pv &&& rc = 0) {Z : pt_V} (hZ : pt_fp fs lv cn hv (hc - (nx + 1)) (nx + 1) false 0 (rc ||| nb_op (nb_d (fs p) pv)) (nb_op (rc ||| nb_op (nb_d (fs p) pv))) rs im = Z) (h1 : Z.1 = true ∧ Z.2.2.1 = true) : pt_vp fs lv cn pv rc hv hc (cn + 1 - p) p nx cf n t f rs im = pt_vp fs lv cn pv rc hv hc (cn + 1 - (p + 1)) (p + 1) Z.2.1 Z.2.2.1 Z.2.2.2.1 Z.2.2.2.2.1 Z.2.2.2.2.2.1 Z.2.2.2.2.2.2.1 Z.2.2.2.2.2.2.2 := by
  subst hZ
  rw [show cn + 1 - p = (cn + 1 - (p + 1)) + 1 by omega, pt_vp, if_neg hp, if_neg (fun q => q hh), if_neg (fun q => q ho)]
  dsimp only
  rw [if_pos h1]
theorem vp_bad (h : p ≤ cn) (hp : ¬ (lv.testBit p = false ∨ fs p &&& pv = 0)) (hh : hv nx = -nI p) (ho : nb_d (fs p) pv &&& rc = 0) {Z : pt_V} (hZ : pt_fp fs lv cn hv (hc - (nx + 1)) (nx + 1) false 0 (rc ||| nb_op (nb_d (fs p) pv)) (nb_op (rc ||| nb_op (nb_d (fs p) pv))) rs im = Z) (h1 : ¬ (Z.1 = true ∧ Z.2.2.1 = true)) : pt_vp fs lv cn pv rc hv hc (cn + 1 - p) p nx cf n t f rs im = (false, Z.2) := by
  subst hZ
  rw [show cn + 1 - p = (cn + 1 - (p + 1)) + 1 by omega, pt_vp, if_neg hp, if_neg (fun q => q hh), if_neg (fun q => q ho)]
  dsimp only
  rw [if_neg h1]
theorem vp_en (h : cn < p) : pt_vp fs lv cn pv rc hv hc (cn + 1 - p) p nx cf n t f rs im = (true, nx, cf, n, t, f, rs, im) := by
  rw [show cn + 1 - p = 0 by omega, pt_vp]
end VP
abbrev pt_U : Type := Nat × Nat × Nat × Bool × Nat × Nat × Nat × (Nat → Nat) × (Nat → Nat)
/-- all steps, k of them from step i on: the first bad clause or 0 -/
def pt_fb (fs fz pb : Nat → Nat) (cn : Nat) (dl : Nat → Bool) (nu : Nat → Nat) (ma : Nat) (ft fc : Nat → Nat) (fr : Nat → Int32) : Nat → Nat → Nat → Nat → Bool → Nat → Nat → Nat → (Nat → Nat) → (Nat → Nat) → pt_U
  | 0, _, lv, nx, cf, n, t, f, rs, im => (0, lv, nx, cf, n, t, f, rs, im)
  | k + 1, i, lv, nx, cf, n, t, f, rs, im =>
    if dl i = true then pt_fb fs fz pb cn dl nu ma ft fc fr k (i + 1) (nb_d lv (2 ^ nu i)) nx cf n t f rs im
    else if ma.testBit (nu i) = false then pt_fb fs fz pb cn dl nu ma ft fc fr k (i + 1) lv nx cf n t f rs im
    else
      let Y := pt_good fs lv cn (fz (nu i)) (pb (nu i)) (fs (nu i)) (fun k => pt_hv ft fc fr (nu i) k) (pt_hc fc (nu i)) rs im
      if Y.1 = true then pt_fb fs fz pb cn dl nu ma ft fc fr k (i + 1) (lv ||| 2 ^ nu i) Y.2.1 Y.2.2.1 Y.2.2.2.1 Y.2.2.2.2.1 Y.2.2.2.2.2.1 Y.2.2.2.2.2.2.1 Y.2.2.2.2.2.2.2
      else (nu i, lv, Y.2)

theorem dc_Vf_followsPartners_0 : decode bc_Vf_followsPartners 0 = .ok (.aload_n 0, 1) := by decide +kernel
theorem dc_Vf_followsPartners_1 : decode bc_Vf_followsPartners 1 = .ok (.getfield 21, 3) := by decide +kernel
theorem dc_Vf_followsPartners_4 : decode bc_Vf_followsPartners 4 = .ok (.getfield 101, 3) := by decide +kernel
theorem dc_Vf_followsPartners_7 : decode bc_Vf_followsPartners 7 = .ok (.istore_n 2, 1) := by decide +kernel
theorem dc_Vf_followsPartners_8 : decode bc_Vf_followsPartners 8 = .ok (.aload_n 0, 1) := by decide +kernel
theorem dc_Vf_followsPartners_9 : decode bc_Vf_followsPartners 9 = .ok (.getfield 7, 3) := by decide +kernel
theorem dc_Vf_followsPartners_12 : decode bc_Vf_followsPartners 12 = .ok (.iload_n 1, 1) := by decide +kernel
theorem dc_Vf_followsPartners_13 : decode bc_Vf_followsPartners 13 = .ok (.iconst 0, 1) := by decide +kernel
theorem dc_Vf_followsPartners_14 : decode bc_Vf_followsPartners 14 = .ok (.invokevirtual 104, 3) := by decide +kernel
theorem dc_Vf_followsPartners_17 : decode bc_Vf_followsPartners 17 = .ok (.ineg, 1) := by decide +kernel
theorem dc_Vf_followsPartners_18 : decode bc_Vf_followsPartners 18 = .ok (.invokestatic 108, 3) := by decide +kernel
theorem dc_Vf_followsPartners_21 : decode bc_Vf_followsPartners 21 = .ok (.istore_n 3, 1) := by decide +kernel
theorem dc_Vf_followsPartners_22 : decode bc_Vf_followsPartners 22 = .ok (.iconst 1, 1) := by decide +kernel
theorem dc_Vf_followsPartners_23 : decode bc_Vf_followsPartners 23 = .ok (.istore 4, 2) := by decide +kernel
theorem dc_Vf_followsPartners_25 : decode bc_Vf_followsPartners 25 = .ok (.iload 4, 2) := by decide +kernel
theorem dc_Vf_followsPartners_27 : decode bc_Vf_followsPartners 27 = .ok (.aload_n 0, 1) := by decide +kernel
theorem dc_Vf_followsPartners_28 : decode bc_Vf_followsPartners 28 = .ok (.getfield 7, 3) := by decide +kernel
theorem dc_Vf_followsPartners_31 : decode bc_Vf_followsPartners 31 = .ok (.getfield 111, 3) := by decide +kernel
theorem dc_Vf_followsPartners_34 : decode bc_Vf_followsPartners 34 = .ok (.if_icmp .gt (127), 3) := by decide +kernel
theorem dc_Vf_followsPartners_37 : decode bc_Vf_followsPartners 37 = .ok (.aload_n 0, 1) := by decide +kernel
theorem dc_Vf_followsPartners_38 : decode bc_Vf_followsPartners 38 = .ok (.getfield 31, 3) := by decide +kernel
theorem dc_Vf_followsPartners_41 : decode bc_Vf_followsPartners 41 = .ok (.iload 4, 2) := by decide +kernel
theorem dc_Vf_followsPartners_43 : decode bc_Vf_followsPartners 43 = .ok (.invokestatic 59, 3) := by decide +kernel
theorem dc_Vf_followsPartners_46 : decode bc_Vf_followsPartners 46 = .ok (.ifCond .eq (109), 3) := by decide +kernel
theorem dc_Vf_followsPartners_49 : decode bc_Vf_followsPartners 49 = .ok (.aload_n 0, 1) := by decide +kernel
theorem dc_Vf_followsPartners_50 : decode bc_Vf_followsPartners 50 = .ok (.getfield 7, 3) := by decide +kernel
theorem dc_Vf_followsPartners_53 : decode bc_Vf_followsPartners 53 = .ok (.getfield 70, 3) := by decide +kernel
theorem dc_Vf_followsPartners_56 : decode bc_Vf_followsPartners 56 = .ok (.iload 4, 2) := by decide +kernel
theorem dc_Vf_followsPartners_58 : decode bc_Vf_followsPartners 58 = .ok (.iaload, 1) := by decide +kernel
theorem dc_Vf_followsPartners_59 : decode bc_Vf_followsPartners 59 = .ok (.iload_n 3, 1) := by decide +kernel
theorem dc_Vf_followsPartners_60 : decode bc_Vf_followsPartners 60 = .ok (.iand, 1) := by decide +kernel
theorem dc_Vf_followsPartners_61 : decode bc_Vf_followsPartners 61 = .ok (.ifCond .ne (6), 3) := by decide +kernel
theorem dc_Vf_followsPartners_64 : decode bc_Vf_followsPartners 64 = .ok (.goto (91), 3) := by decide +kernel
theorem dc_Vf_followsPartners_67 : decode bc_Vf_followsPartners 67 = .ok (.aload_n 0, 1) := by decide +kernel
theorem dc_Vf_followsPartners_68 : decode bc_Vf_followsPartners 68 = .ok (.getfield 17, 3) := by decide +kernel
theorem dc_Vf_followsPartners_71 : decode bc_Vf_followsPartners 71 = .ok (.iload_n 1, 1) := by decide +kernel
theorem dc_Vf_followsPartners_72 : decode bc_Vf_followsPartners 72 = .ok (.aload_n 0, 1) := by decide +kernel
theorem dc_Vf_followsPartners_73 : decode bc_Vf_followsPartners 73 = .ok (.getfield 67, 3) := by decide +kernel
theorem dc_Vf_followsPartners_76 : decode bc_Vf_followsPartners 76 = .ok (.invokevirtual 112, 3) := by decide +kernel
theorem dc_Vf_followsPartners_79 : decode bc_Vf_followsPartners 79 = .ok (.iload 4, 2) := by decide +kernel
theorem dc_Vf_followsPartners_81 : decode bc_Vf_followsPartners 81 = .ok (.ineg, 1) := by decide +kernel
theorem dc_Vf_followsPartners_82 : decode bc_Vf_followsPartners 82 = .ok (.if_icmp .eq (5), 3) := by decide +kernel
theorem dc_Vf_followsPartners_85 : decode bc_Vf_followsPartners 85 = .ok (.iconst 0, 1) := by decide +kernel
theorem dc_Vf_followsPartners_86 : decode bc_Vf_followsPartners 86 = .ok (.ireturn, 1) := by decide +kernel
theorem dc_Vf_followsPartners_87 : decode bc_Vf_followsPartners 87 = .ok (.aload_n 0, 1) := by decide +kernel
theorem dc_Vf_followsPartners_88 : decode bc_Vf_followsPartners 88 = .ok (.dup, 1) := by decide +kernel
theorem dc_Vf_followsPartners_89 : decode bc_Vf_followsPartners 89 = .ok (.getfield 67, 3) := by decide +kernel
theorem dc_Vf_followsPartners_92 : decode bc_Vf_followsPartners 92 = .ok (.iconst 1, 1) := by decide +kernel
theorem dc_Vf_followsPartners_93 : decode bc_Vf_followsPartners 93 = .ok (.iadd, 1) := by decide +kernel
theorem dc_Vf_followsPartners_94 : decode bc_Vf_followsPartners 94 = .ok (.putfield 67, 3) := by decide +kernel
theorem dc_Vf_followsPartners_97 : decode bc_Vf_followsPartners 97 = .ok (.aload_n 0, 1) := by decide +kernel
theorem dc_Vf_followsPartners_98 : decode bc_Vf_followsPartners 98 = .ok (.getfield 7, 3) := by decide +kernel
theorem dc_Vf_followsPartners_101 : decode bc_Vf_followsPartners 101 = .ok (.getfield 70, 3) := by decide +kernel
theorem dc_Vf_followsPartners_104 : decode bc_Vf_followsPartners 104 = .ok (.iload 4, 2) := by decide +kernel
theorem dc_Vf_followsPartners_106 : decode bc_Vf_followsPartners 106 = .ok (.iaload, 1) := by decide +kernel
theorem dc_Vf_followsPartners_107 : decode bc_Vf_followsPartners 107 = .ok (.iload_n 3, 1) := by decide +kernel
theorem dc_Vf_followsPartners_108 : decode bc_Vf_followsPartners 108 = .ok (.iconst (-1), 1) := by decide +kernel
theorem dc_Vf_followsPartners_109 : decode bc_Vf_followsPartners 109 = .ok (.ixor, 1) := by decide +kernel
theorem dc_Vf_followsPartners_110 : decode bc_Vf_followsPartners 110 = .ok (.iand, 1) := by decide +kernel
theorem dc_Vf_followsPartners_111 : decode bc_Vf_followsPartners 111 = .ok (.istore 5, 2) := by decide +kernel
theorem dc_Vf_followsPartners_113 : decode bc_Vf_followsPartners 113 = .ok (.iload 5, 2) := by decide +kernel
theorem dc_Vf_followsPartners_115 : decode bc_Vf_followsPartners 115 = .ok (.iload_n 2, 1) := by decide +kernel
theorem dc_Vf_followsPartners_116 : decode bc_Vf_followsPartners 116 = .ok (.iand, 1) := by decide +kernel
theorem dc_Vf_followsPartners_117 : decode bc_Vf_followsPartners 117 = .ok (.ifCond .eq (6), 3) := by decide +kernel
theorem dc_Vf_followsPartners_120 : decode bc_Vf_followsPartners 120 = .ok (.goto (35), 3) := by decide +kernel
theorem dc_Vf_followsPartners_123 : decode bc_Vf_followsPartners 123 = .ok (.aload_n 0, 1) := by decide +kernel
theorem dc_Vf_followsPartners_124 : decode bc_Vf_followsPartners 124 = .ok (.getfield 21, 3) := by decide +kernel
theorem dc_Vf_followsPartners_127 : decode bc_Vf_followsPartners 127 = .ok (.iload_n 2, 1) := by decide +kernel
theorem dc_Vf_followsPartners_128 : decode bc_Vf_followsPartners 128 = .ok (.iload 5, 2) := by decide +kernel
theorem dc_Vf_followsPartners_130 : decode bc_Vf_followsPartners 130 = .ok (.invokestatic 75, 3) := by decide +kernel
theorem dc_Vf_followsPartners_133 : decode bc_Vf_followsPartners 133 = .ok (.ior, 1) := by decide +kernel
theorem dc_Vf_followsPartners_134 : decode bc_Vf_followsPartners 134 = .ok (.iconst 0, 1) := by decide +kernel
theorem dc_Vf_followsPartners_135 : decode bc_Vf_followsPartners 135 = .ok (.invokevirtual 79, 3) := by decide +kernel
theorem dc_Vf_followsPartners_138 : decode bc_Vf_followsPartners 138 = .ok (.aload_n 0, 1) := by decide +kernel
theorem dc_Vf_followsPartners_139 : decode bc_Vf_followsPartners 139 = .ok (.iload_n 1, 1) := by decide +kernel
theorem dc_Vf_followsPartners_140 : decode bc_Vf_followsPartners 140 = .ok (.invokevirtual 85, 3) := by decide +kernel
theorem dc_Vf_followsPartners_143 : decode bc_Vf_followsPartners 143 = .ok (.ifCond .eq (10), 3) := by decide +kernel
theorem dc_Vf_followsPartners_146 : decode bc_Vf_followsPartners 146 = .ok (.aload_n 0, 1) := by decide +kernel
theorem dc_Vf_followsPartners_147 : decode bc_Vf_followsPartners 147 = .ok (.getfield 88, 3) := by decide +kernel
theorem dc_Vf_followsPartners_150 : decode bc_Vf_followsPartners 150 = .ok (.ifCond .ne (5), 3) := by decide +kernel
theorem dc_Vf_followsPartners_153 : decode bc_Vf_followsPartners 153 = .ok (.iconst 0, 1) := by decide +kernel
theorem dc_Vf_followsPartners_154 : decode bc_Vf_followsPartners 154 = .ok (.ireturn, 1) := by decide +kernel
theorem dc_Vf_followsPartners_155 : decode bc_Vf_followsPartners 155 = .ok (.iinc 4 (1), 3) := by decide +kernel
theorem dc_Vf_followsPartners_158 : decode bc_Vf_followsPartners 158 = .ok (.goto (-133), 3) := by decide +kernel
theorem dc_Vf_followsPartners_161 : decode bc_Vf_followsPartners 161 = .ok (.iconst 1, 1) := by decide +kernel
theorem dc_Vf_followsPartners_162 : decode bc_Vf_followsPartners 162 = .ok (.ireturn, 1) := by decide +kernel
theorem dc_Vf_isGood_0 : decode bc_Vf_isGood 0 = .ok (.aload_n 0, 1) := by decide +kernel
theorem dc_Vf_isGood_1 : decode bc_Vf_isGood 1 = .ok (.iconst 0, 1) := by decide +kernel
theorem dc_Vf_isGood_2 : decode bc_Vf_isGood 2 = .ok (.putfield 67, 3) := by decide +kernel
theorem dc_Vf_isGood_5 : decode bc_Vf_isGood 5 = .ok (.aload_n 0, 1) := by decide +kernel
theorem dc_Vf_isGood_6 : decode bc_Vf_isGood 6 = .ok (.getfield 21, 3) := by decide +kernel
theorem dc_Vf_isGood_9 : decode bc_Vf_isGood 9 = .ok (.aload_n 0, 1) := by decide +kernel
theorem dc_Vf_isGood_10 : decode bc_Vf_isGood 10 = .ok (.getfield 7, 3) := by decide +kernel
theorem dc_Vf_isGood_13 : decode bc_Vf_isGood 13 = .ok (.getfield 70, 3) := by decide +kernel
theorem dc_Vf_isGood_16 : decode bc_Vf_isGood 16 = .ok (.iload_n 1, 1) := by decide +kernel
theorem dc_Vf_isGood_17 : decode bc_Vf_isGood 17 = .ok (.iaload, 1) := by decide +kernel
theorem dc_Vf_isGood_18 : decode bc_Vf_isGood 18 = .ok (.invokestatic 75, 3) := by decide +kernel
theorem dc_Vf_isGood_21 : decode bc_Vf_isGood 21 = .ok (.iconst 0, 1) := by decide +kernel
theorem dc_Vf_isGood_22 : decode bc_Vf_isGood 22 = .ok (.invokevirtual 79, 3) := by decide +kernel
theorem dc_Vf_isGood_25 : decode bc_Vf_isGood 25 = .ok (.aload_n 0, 1) := by decide +kernel
theorem dc_Vf_isGood_26 : decode bc_Vf_isGood 26 = .ok (.iload_n 1, 1) := by decide +kernel
theorem dc_Vf_isGood_27 : decode bc_Vf_isGood 27 = .ok (.invokevirtual 85, 3) := by decide +kernel
theorem dc_Vf_isGood_30 : decode bc_Vf_isGood 30 = .ok (.ifCond .ne (5), 3) := by decide +kernel
theorem dc_Vf_isGood_33 : decode bc_Vf_isGood 33 = .ok (.iconst 0, 1) := by decide +kernel
theorem dc_Vf_isGood_34 : decode bc_Vf_isGood 34 = .ok (.ireturn, 1) := by decide +kernel
theorem dc_Vf_isGood_35 : decode bc_Vf_isGood 35 = .ok (.aload_n 0, 1) := by decide +kernel
theorem dc_Vf_isGood_36 : decode bc_Vf_isGood 36 = .ok (.getfield 88, 3) := by decide +kernel
theorem dc_Vf_isGood_39 : decode bc_Vf_isGood 39 = .ok (.ifCond .ne (25), 3) := by decide +kernel
theorem dc_Vf_isGood_42 : decode bc_Vf_isGood 42 = .ok (.aload_n 0, 1) := by decide +kernel
theorem dc_Vf_isGood_43 : decode bc_Vf_isGood 43 = .ok (.getfield 7, 3) := by decide +kernel
theorem dc_Vf_isGood_46 : decode bc_Vf_isGood 46 = .ok (.getfield 92, 3) := by decide +kernel
theorem dc_Vf_isGood_49 : decode bc_Vf_isGood 49 = .ok (.iload_n 1, 1) := by decide +kernel
theorem dc_Vf_isGood_50 : decode bc_Vf_isGood 50 = .ok (.iaload, 1) := by decide +kernel
theorem dc_Vf_isGood_51 : decode bc_Vf_isGood 51 = .ok (.ifCond .eq (11), 3) := by decide +kernel
theorem dc_Vf_isGood_54 : decode bc_Vf_isGood 54 = .ok (.aload_n 0, 1) := by decide +kernel
theorem dc_Vf_isGood_55 : decode bc_Vf_isGood 55 = .ok (.iload_n 1, 1) := by decide +kernel
theorem dc_Vf_isGood_56 : decode bc_Vf_isGood 56 = .ok (.invokevirtual 95, 3) := by decide +kernel
theorem dc_Vf_isGood_59 : decode bc_Vf_isGood 59 = .ok (.ifCond .ne (5), 3) := by decide +kernel
theorem dc_Vf_isGood_62 : decode bc_Vf_isGood 62 = .ok (.iconst 0, 1) := by decide +kernel
theorem dc_Vf_isGood_63 : decode bc_Vf_isGood 63 = .ok (.ireturn, 1) := by decide +kernel
theorem dc_Vf_isGood_64 : decode bc_Vf_isGood 64 = .ok (.aload_n 0, 1) := by decide +kernel
theorem dc_Vf_isGood_65 : decode bc_Vf_isGood 65 = .ok (.getfield 67, 3) := by decide +kernel
theorem dc_Vf_isGood_68 : decode bc_Vf_isGood 68 = .ok (.aload_n 0, 1) := by decide +kernel
theorem dc_Vf_isGood_69 : decode bc_Vf_isGood 69 = .ok (.getfield 17, 3) := by decide +kernel
theorem dc_Vf_isGood_72 : decode bc_Vf_isGood 72 = .ok (.iload_n 1, 1) := by decide +kernel
theorem dc_Vf_isGood_73 : decode bc_Vf_isGood 73 = .ok (.invokevirtual 98, 3) := by decide +kernel
theorem dc_Vf_isGood_76 : decode bc_Vf_isGood 76 = .ok (.if_icmp .ne (7), 3) := by decide +kernel
theorem dc_Vf_isGood_79 : decode bc_Vf_isGood 79 = .ok (.iconst 1, 1) := by decide +kernel
theorem dc_Vf_isGood_80 : decode bc_Vf_isGood 80 = .ok (.goto (4), 3) := by decide +kernel
theorem dc_Vf_isGood_83 : decode bc_Vf_isGood 83 = .ok (.iconst 0, 1) := by decide +kernel
theorem dc_Vf_isGood_84 : decode bc_Vf_isGood 84 = .ok (.ireturn, 1) := by decide +kernel
theorem dc_Vf_firstBad_0 : decode bc_Vf_firstBad 0 = .ok (.aload_n 0, 1) := by decide +kernel
theorem dc_Vf_firstBad_1 : decode bc_Vf_firstBad 1 = .ok (.iload_n 1, 1) := by decide +kernel
theorem dc_Vf_firstBad_2 : decode bc_Vf_firstBad 2 = .ok (.invokestatic 25, 3) := by decide +kernel
theorem dc_Vf_firstBad_5 : decode bc_Vf_firstBad 5 = .ok (.putfield 31, 3) := by decide +kernel
theorem dc_Vf_firstBad_8 : decode bc_Vf_firstBad 8 = .ok (.iconst 1, 1) := by decide +kernel
theorem dc_Vf_firstBad_9 : decode bc_Vf_firstBad 9 = .ok (.istore_n 2, 1) := by decide +kernel
theorem dc_Vf_firstBad_10 : decode bc_Vf_firstBad 10 = .ok (.iload_n 2, 1) := by decide +kernel
theorem dc_Vf_firstBad_11 : decode bc_Vf_firstBad 11 = .ok (.aload_n 0, 1) := by decide +kernel
theorem dc_Vf_firstBad_12 : decode bc_Vf_firstBad 12 = .ok (.getfield 13, 3) := by decide +kernel
theorem dc_Vf_firstBad_15 : decode bc_Vf_firstBad 15 = .ok (.getfield 35, 3) := by decide +kernel
theorem dc_Vf_firstBad_18 : decode bc_Vf_firstBad 18 = .ok (.if_icmp .gt (88), 3) := by decide +kernel
theorem dc_Vf_firstBad_21 : decode bc_Vf_firstBad 21 = .ok (.aload_n 0, 1) := by decide +kernel
theorem dc_Vf_firstBad_22 : decode bc_Vf_firstBad 22 = .ok (.getfield 13, 3) := by decide +kernel
theorem dc_Vf_firstBad_25 : decode bc_Vf_firstBad 25 = .ok (.getfield 41, 3) := by decide +kernel
theorem dc_Vf_firstBad_28 : decode bc_Vf_firstBad 28 = .ok (.iload_n 2, 1) := by decide +kernel
theorem dc_Vf_firstBad_29 : decode bc_Vf_firstBad 29 = .ok (.iaload, 1) := by decide +kernel
theorem dc_Vf_firstBad_30 : decode bc_Vf_firstBad 30 = .ok (.istore_n 3, 1) := by decide +kernel
theorem dc_Vf_firstBad_31 : decode bc_Vf_firstBad 31 = .ok (.aload_n 0, 1) := by decide +kernel
theorem dc_Vf_firstBad_32 : decode bc_Vf_firstBad 32 = .ok (.getfield 13, 3) := by decide +kernel
theorem dc_Vf_firstBad_35 : decode bc_Vf_firstBad 35 = .ok (.getfield 45, 3) := by decide +kernel
theorem dc_Vf_firstBad_38 : decode bc_Vf_firstBad 38 = .ok (.iload_n 2, 1) := by decide +kernel
theorem dc_Vf_firstBad_39 : decode bc_Vf_firstBad 39 = .ok (.baload, 1) := by decide +kernel
theorem dc_Vf_firstBad_40 : decode bc_Vf_firstBad 40 = .ok (.ifCond .eq (23), 3) := by decide +kernel
theorem dc_Vf_firstBad_43 : decode bc_Vf_firstBad 43 = .ok (.aload_n 0, 1) := by decide +kernel
theorem dc_Vf_firstBad_44 : decode bc_Vf_firstBad 44 = .ok (.dup, 1) := by decide +kernel
theorem dc_Vf_firstBad_45 : decode bc_Vf_firstBad 45 = .ok (.getfield 31, 3) := by decide +kernel
theorem dc_Vf_firstBad_48 : decode bc_Vf_firstBad 48 = .ok (.iload_n 3, 1) := by decide +kernel
theorem dc_Vf_firstBad_49 : decode bc_Vf_firstBad 49 = .ok (.invokestatic 49, 3) := by decide +kernel
theorem dc_Vf_firstBad_52 : decode bc_Vf_firstBad 52 = .ok (.ldc2_w 52, 3) := by decide +kernel
theorem dc_Vf_firstBad_55 : decode bc_Vf_firstBad 55 = .ok (.lxor, 1) := by decide +kernel
theorem dc_Vf_firstBad_56 : decode bc_Vf_firstBad 56 = .ok (.land, 1) := by decide +kernel
theorem dc_Vf_firstBad_57 : decode bc_Vf_firstBad 57 = .ok (.putfield 31, 3) := by decide +kernel
theorem dc_Vf_firstBad_60 : decode bc_Vf_firstBad 60 = .ok (.goto (40), 3) := by decide +kernel
theorem dc_Vf_firstBad_63 : decode bc_Vf_firstBad 63 = .ok (.aload_n 0, 1) := by decide +kernel
theorem dc_Vf_firstBad_64 : decode bc_Vf_firstBad 64 = .ok (.getfield 17, 3) := by decide +kernel
theorem dc_Vf_firstBad_67 : decode bc_Vf_firstBad 67 = .ok (.getfield 54, 3) := by decide +kernel
theorem dc_Vf_firstBad_70 : decode bc_Vf_firstBad 70 = .ok (.iload_n 3, 1) := by decide +kernel
theorem dc_Vf_firstBad_71 : decode bc_Vf_firstBad 71 = .ok (.invokestatic 59, 3) := by decide +kernel
theorem dc_Vf_firstBad_74 : decode bc_Vf_firstBad 74 = .ok (.ifCond .eq (26), 3) := by decide +kernel
theorem dc_Vf_firstBad_77 : decode bc_Vf_firstBad 77 = .ok (.aload_n 0, 1) := by decide +kernel
theorem dc_Vf_firstBad_78 : decode bc_Vf_firstBad 78 = .ok (.iload_n 3, 1) := by decide +kernel
theorem dc_Vf_firstBad_79 : decode bc_Vf_firstBad 79 = .ok (.invokevirtual 63, 3) := by decide +kernel
theorem dc_Vf_firstBad_82 : decode bc_Vf_firstBad 82 = .ok (.ifCond .ne (5), 3) := by decide +kernel
theorem dc_Vf_firstBad_85 : decode bc_Vf_firstBad 85 = .ok (.iload_n 3, 1) := by decide +kernel
theorem dc_Vf_firstBad_86 : decode bc_Vf_firstBad 86 = .ok (.ireturn, 1) := by decide +kernel
theorem dc_Vf_firstBad_87 : decode bc_Vf_firstBad 87 = .ok (.aload_n 0, 1) := by decide +kernel
theorem dc_Vf_firstBad_88 : decode bc_Vf_firstBad 88 = .ok (.dup, 1) := by decide +kernel
theorem dc_Vf_firstBad_89 : decode bc_Vf_firstBad 89 = .ok (.getfield 31, 3) := by decide +kernel
theorem dc_Vf_firstBad_92 : decode bc_Vf_firstBad 92 = .ok (.iload_n 3, 1) := by decide +kernel
theorem dc_Vf_firstBad_93 : decode bc_Vf_firstBad 93 = .ok (.invokestatic 49, 3) := by decide +kernel
theorem dc_Vf_firstBad_96 : decode bc_Vf_firstBad 96 = .ok (.lor, 1) := by decide +kernel
theorem dc_Vf_firstBad_97 : decode bc_Vf_firstBad 97 = .ok (.putfield 31, 3) := by decide +kernel
theorem dc_Vf_firstBad_100 : decode bc_Vf_firstBad 100 = .ok (.iinc 2 (1), 3) := by decide +kernel
theorem dc_Vf_firstBad_103 : decode bc_Vf_firstBad 103 = .ok (.goto (-93), 3) := by decide +kernel
theorem dc_Vf_firstBad_106 : decode bc_Vf_firstBad 106 = .ok (.iconst 0, 1) := by decide +kernel
theorem dc_Vf_firstBad_107 : decode bc_Vf_firstBad 107 = .ok (.ireturn, 1) := by decide +kernel
theorem dc_Vf_init_0 : decode bc_Vf_init 0 = .ok (.aload_n 0, 1) := by decide +kernel
theorem dc_Vf_init_1 : decode bc_Vf_init 1 = .ok (.invokespecial 1, 3) := by decide +kernel
theorem dc_Vf_init_4 : decode bc_Vf_init 4 = .ok (.aload_n 0, 1) := by decide +kernel
theorem dc_Vf_init_5 : decode bc_Vf_init 5 = .ok (.aload_n 1, 1) := by decide +kernel
theorem dc_Vf_init_6 : decode bc_Vf_init 6 = .ok (.putfield 7, 3) := by decide +kernel
theorem dc_Vf_init_9 : decode bc_Vf_init 9 = .ok (.aload_n 0, 1) := by decide +kernel
theorem dc_Vf_init_10 : decode bc_Vf_init 10 = .ok (.aload_n 2, 1) := by decide +kernel
theorem dc_Vf_init_11 : decode bc_Vf_init 11 = .ok (.putfield 13, 3) := by decide +kernel
theorem dc_Vf_init_14 : decode bc_Vf_init 14 = .ok (.aload_n 0, 1) := by decide +kernel
theorem dc_Vf_init_15 : decode bc_Vf_init 15 = .ok (.aload_n 3, 1) := by decide +kernel
theorem dc_Vf_init_16 : decode bc_Vf_init 16 = .ok (.putfield 17, 3) := by decide +kernel
theorem dc_Vf_init_19 : decode bc_Vf_init 19 = .ok (.aload_n 0, 1) := by decide +kernel
theorem dc_Vf_init_20 : decode bc_Vf_init 20 = .ok (.aload 4, 2) := by decide +kernel
theorem dc_Vf_init_22 : decode bc_Vf_init 22 = .ok (.putfield 21, 3) := by decide +kernel
theorem dc_Vf_init_25 : decode bc_Vf_init 25 = .ok (.return_, 1) := by decide +kernel
set_option maxHeartbeats 4000000 in
set_option maxRecDepth 100000 in
theorem ct_Vf_followsPartners (l : Launch) (D : va_G) (cI cZ : ClassId) (sz : Nat) (o : Nat) (xc : Nat) (xs : Nat) (xt : Nat) (xa : Nat) (lv : Nat) (nx : Nat) (cf : Bool) (ca : Nat) (cb : Nat) (cd : Nat) (cn : Nat) (fz : Nat → Nat) (fs : Nat → Nat) (fl : Nat → Int32) (aa : Nat) (ab : Nat) (n : Nat) (t : Nat) (f : Nat) (rs : Nat → Nat) (im : Nat → Nat) (ta : Nat) (tb : Nat) (td : Nat) (g : Nat) (mk : Nat) (ckd : Bool) (ft : Nat → Nat) (fc : Nat → Nat) (fr : Nat → Int32) (j : Nat) (qb : Nat) (pb : Nat) (hcn : cn ≤ 32) (h16 : ∀ j, fs j < 65536) (hlv : lv < 2 ^ 62) (hb0 : ∀ j, 1 ≤ j → j ≤ 32 → ft j + fc j ≤ 2048) (hz : ∀ i, 1 ≤ i → i ≤ cn → fz i ≤ 8) (hj1 : 1 ≤ j) (hj2 : j ≤ cn) (ht16 : t < 65536) (hnx : nx ≤ 2048) (hz1 : 1 ≤ fz j) (hqb : qb < 16) (hlit : fl (j * 8) = pt_lit qb) (hpb : (qb + 8) % 16 = pb) : Met l yn_Vf_followsPartners (Cond.code yn_Vf_followsPartners bc_Vf_followsPartners 6 (some .boolean) :: kx_all) ({ frames := 3, cells := 0, slots := 0, locals := 65 } : Room) (kp [.ref o, .int (nI j)] D cI cZ [vf_c o xc xs xt xa lv nx cf, cl_c xc ca cb cd cn, ar_n cI ca 33 fz, ar_n cI cb 33 fs, ar_i cI cd (33 * 8) fl, as_c xa aa ab n t f, ar_n cI aa 8 rs, ar_n cI ab 8 im, tr_c xt ta tb td g mk ckd, ar_n cI ta 33 ft, ar_n cI tb 33 fc, ar_i cI td 2048 fr] sz) (kw_q (some (.int (kb_i ((pt_vp fs lv cn (2 ^ pb) t (fun k => pt_hv ft fc fr j k) (pt_hc fc j) cn 1 nx cf n t f rs im).1)))) D kc_l [vf_c o xc xs xt xa lv ((pt_vp fs lv cn (2 ^ pb) t (fun k => pt_hv ft fc fr j k) (pt_hc fc j) cn 1 nx cf n t f rs im).2.1) ((pt_vp fs lv cn (2 ^ pb) t (fun k => pt_hv ft fc fr j k) (pt_hc fc j) cn 1 nx cf n t f rs im).2.2.1), cl_c xc ca cb cd cn, ar_n cI ca 33 fz, ar_n cI cb 33 fs, ar_i cI cd (33 * 8) fl, as_c xa aa ab ((pt_vp fs lv cn (2 ^ pb) t (fun k => pt_hv ft fc fr j k) (pt_hc fc j) cn 1 nx cf n t f rs im).2.2.2.1) ((pt_vp fs lv cn (2 ^ pb) t (fun k => pt_hv ft fc fr j k) (pt_hc fc j) cn 1 nx cf n t f rs im).2.2.2.2.1) ((pt_vp fs lv cn (2 ^ pb) t (fun k => pt_hv ft fc fr j k) (pt_hc fc j) cn 1 nx cf n t f rs im).2.2.2.2.2.1), ar_n cI aa 8 ((pt_vp fs lv cn (2 ^ pb) t (fun k => pt_hv ft fc fr j k) (pt_hc fc j) cn 1 nx cf n t f rs im).2.2.2.2.2.2.1), ar_n cI ab 8 ((pt_vp fs lv cn (2 ^ pb) t (fun k => pt_hv ft fc fr j k) (pt_hc fc j) cn 1 nx cf n t f rs im).2.2.2.2.2.2.2), tr_c xt ta tb td g mk ckd, ar_n cI ta 33 ft, ar_n cI tb 33 fc, ar_i cI td 2048 fr] (va_A [vf_c o xc xs xt xa lv nx cf, cl_c xc ca cb cd cn, ar_n cI ca 33 fz, ar_n cI cb 33 fs, ar_i cI cd (33 * 8) fl, as_c xa aa ab n t f, ar_n cI aa 8 rs, ar_n cI ab 8 im, tr_c xt ta tb td g mk ckd, ar_n cI ta 33 ft, ar_n cI tb 33 fc, ar_i cI td 2048 fr] sz)) 0 0 (va_A [vf_c o xc xs xt xa lv nx cf, cl_c xc ca cb cd cn, ar_n cI ca 33 fz, ar_n cI cb 33 fs, ar_i cI cd (33 * 8) fl, as_c xa aa ab n t f, ar_n cI aa 8 rs, ar_n cI ab 8 im, tr_c xt ta tb td g mk ckd, ar_n cI ta 33 ft, ar_n cI tb 33 fc, ar_i cI td 2048 fr] sz) := by
  refine kx_metW (by decide) (Nat.le_of_ble_eq_true rfl) ?_
  intro p e s m below meth c ls A hx hb hr hml hts hown hlocks hin hA hP hK hD hN hl hS
  have hown : s.vm.findClass rn_Vf = some m.cls := hown
  have hl : lv_has ls 6 [(0, .ref o), (1, .int (nI j))] := hl
  have hcb : pt_hc fc j ≤ 2048 := by
    unfold pt_hc
    split
    · have := hb0 j (by omega) (by omega); omega
    · decide
  refine lv_aload_n hx hb dc_Vf_followsPartners_0 rfl (lv_at hl 0 rfl) ?_
  refine va_get (ci := 8) (v := .ref xa) (C := rn_Vf) (T := fd_Vf) (N := 7) hx hb hts in_Vf hown hK hP 0 rfl rfl 3 (by decide) (hts _ wd_680) (fun _ h9 => h9) rfl dc_Vf_followsPartners_1 ?_
  refine va_getN (ci := 6) (v := .int (nI t)) (C := rn_As) (T := fd_As) (N := 5) hx hb hts in_As hown hK hP 5 rfl rfl 3 (by decide) (nf_171 hN) (fun _ h9 => h9) rfl dc_Vf_followsPartners_4 ?_
  refine lv_istore_n (lv' := [(2, .int (nI t)), (0, .ref o), (1, .int (nI j))]) hx hb dc_Vf_followsPartners_7 rfl hl (by decide) rfl (fun ls hl => ?_)
  refine lv_aload_n hx hb dc_Vf_followsPartners_8 rfl (lv_at hl 1 rfl) ?_
  refine va_get (ci := 8) (v := .ref xc) (C := rn_Vf) (T := fd_Vf) (N := 7) hx hb hts in_Vf hown hK hP 0 rfl rfl 0 (by decide) (hts _ wd_677) (fun _ h9 => h9) rfl dc_Vf_followsPartners_9 ?_
  refine lv_iload_n hx hb dc_Vf_followsPartners_12 rfl (lv_at hl 2 rfl) ?_
  refine lv_iconst (v := nI 0) hx hb dc_Vf_followsPartners_13 (by decide +kernel) ?_
  refine kr_call1 (va_runV (As := [.int (nI j), .int (nI 0)]) (rest := []) ⟨hx, hb, hml, hown, hts⟩ (ct_Cl_literalAt l D cI cZ _ xc ca cb cd 33 cn fz fs fl j 0 (by omega) (by omega) (hz) (by omega) (by omega)) (cwV 2 hts (kx_gV wd_726 wd_248 wd_249 wd_4 wd_250) rfl rfl rfl ⟨rfl, yd_Cl_literalAt⟩ ⟨Nat.le_of_ble_eq_true rfl, Nat.le_of_ble_eq_true rfl⟩) (kp_V (q0 := 1) (ci := 2) hP hD hK hN [1, 2, 3, 4] rfl rfl rfl rfl rfl) rfl rfl hl.1 rfl (lv_room (Nat.le_of_ble_eq_true rfl)) dc_Vf_followsPartners_14 ⟨Nat.le_of_ble_eq_true rfl, Nat.le_of_ble_eq_true rfl⟩) ?_
  refine kn_top (y := pt_lit qb) ((if_pos ⟨⟨by omega, by omega⟩, by omega⟩).trans (by rw [Nat.add_zero]; exact hlit)) ?_
  refine lv_ineg hx hb dc_Vf_followsPartners_17 ?_
  refine kn_top (y := pt_lit pb) ((pt_lit_op qb hqb).trans (by rw [hpb])) ?_
  refine kr_call1 (va_runSN (As := [.int (pt_lit pb)]) (rest := []) ⟨hx, hb, hml, hown, hts⟩ (ct_Pt_only l D cI cZ _ pb (by omega)) ⟨va_cnB 1 hts (kx_gi wd_416) rfl rfl rfl (nw_727 hN) (hts _ wd_1) yd_Pt_only ⟨Nat.le_of_ble_eq_true rfl, Nat.le_of_ble_eq_true rfl⟩, hts _ wd_415, trivial⟩ (kp_S hP hD hK hN [] rfl rfl) rfl rfl hl.1 rfl (lv_room (Nat.le_of_ble_eq_true rfl)) dc_Vf_followsPartners_18 ⟨Nat.le_of_ble_eq_true rfl, Nat.le_of_ble_eq_true rfl⟩) ?_
  refine lv_istore_n (lv' := [(3, .int (nI (2 ^ pb))), (2, .int (nI t)), (0, .ref o), (1, .int (nI j))]) hx hb dc_Vf_followsPartners_21 rfl hl (by decide) rfl (fun ls hl => ?_)
  refine lv_iconst (v := nI 1) hx hb dc_Vf_followsPartners_22 (by decide +kernel) ?_
  refine lv_istore (lv' := [(4, .int (nI 1)), (3, .int (nI (2 ^ pb))), (2, .int (nI t)), (0, .ref o), (1, .int (nI j))]) hx hb dc_Vf_followsPartners_23 hl (by decide) rfl (fun ls hl => ?_)
  have lp_25 : ∀ (K : Nat) (p0 : Nat) (nk : Nat) (ck1 : Bool) (n1 : Nat) (t1 : Nat) (f1 : Nat) (rs1 : Nat → Nat) (im1 : Nat → Nat) (H : Heap) (locs : List Loc) (ls : Array Slot), cn + 1 - p0 < K → va_P D kc_l [vf_c o xc xs xt xa lv nk ck1, cl_c xc ca cb cd cn, ar_n cI ca 33 fz, ar_n cI cb 33 fs, ar_i cI cd (33 * 8) fl, as_c xa aa ab n1 t1 f1, ar_n cI aa 8 rs1, ar_n cI ab 8 im1, tr_c xt ta tb td g mk ckd, ar_n cI ta 33 ft, ar_n cI tb 33 fc, ar_i cI td 2048 fr] H → va_D A [vf_c o xc xs xt xa lv nk ck1, cl_c xc ca cb cd cn, ar_n cI ca 33 fz, ar_n cI cb 33 fs, ar_i cI cd (33 * 8) fl, as_c xa aa ab n1 t1 f1, ar_n cI aa 8 rs1, ar_n cI ab 8 im1, tr_c xt ta tb td g mk ckd, ar_n cI ta 33 ft, ar_n cI tb 33 fc, ar_i cI td 2048 fr] → va_S A s.heap H locs → lv_has ls 6 [(4, .int (nI p0)), (3, .int (nI (2 ^ pb))), (2, .int (nI t)), (0, .ref o), (1, .int (nI j))] → (pt_vp fs lv cn (2 ^ pb) t (fun k => pt_hv ft fc fr j k) (pt_hc fc j) (cn + 1 - p0) p0 nk ck1 n1 t1 f1 rs1 im1 = pt_vp fs lv cn (2 ^ pb) t (fun k => pt_hv ft fc fr j k) (pt_hc fc j) cn 1 nx cf n t f rs im) → (1 ≤ p0 ∧ p0 ≤ cn + 1) → (nk ≤ 2048) → W p l e ({ frames := 3, cells := 0, slots := 0, locals := 65 } : Room) s m ([.ref o, .int (nI j)] : List Value).toArray below meth c H locs 0 0 (MQ below (kw_q (some (.int (kb_i ((pt_vp fs lv cn (2 ^ pb) t (fun k => pt_hv ft fc fr j k) (pt_hc fc j) cn 1 nx cf n t f rs im).1)))) D kc_l [vf_c o xc xs xt xa lv ((pt_vp fs lv cn (2 ^ pb) t (fun k => pt_hv ft fc fr j k) (pt_hc fc j) cn 1 nx cf n t f rs im).2.1) ((pt_vp fs lv cn (2 ^ pb) t (fun k => pt_hv ft fc fr j k) (pt_hc fc j) cn 1 nx cf n t f rs im).2.2.1), cl_c xc ca cb cd cn, ar_n cI ca 33 fz, ar_n cI cb 33 fs, ar_i cI cd (33 * 8) fl, as_c xa aa ab ((pt_vp fs lv cn (2 ^ pb) t (fun k => pt_hv ft fc fr j k) (pt_hc fc j) cn 1 nx cf n t f rs im).2.2.2.1) ((pt_vp fs lv cn (2 ^ pb) t (fun k => pt_hv ft fc fr j k) (pt_hc fc j) cn 1 nx cf n t f rs im).2.2.2.2.1) ((pt_vp fs lv cn (2 ^ pb) t (fun k => pt_hv ft fc fr j k) (pt_hc fc j) cn 1 nx cf n t f rs im).2.2.2.2.2.1), ar_n cI aa 8 ((pt_vp fs lv cn (2 ^ pb) t (fun k => pt_hv ft fc fr j k) (pt_hc fc j) cn 1 nx cf n t f rs im).2.2.2.2.2.2.1), ar_n cI ab 8 ((pt_vp fs lv cn (2 ^ pb) t (fun k => pt_hv ft fc fr j k) (pt_hc fc j) cn 1 nx cf n t f rs im).2.2.2.2.2.2.2), tr_c xt ta tb td g mk ckd, ar_n cI ta 33 ft, ar_n cI tb 33 fc, ar_i cI td 2048 fr] A) ([.ref o, .int (nI j)] : List Value).toArray s 0 0 A) (F0 m 25 ls []) := by
    intro K
    induction K with
    | zero =>
      intro p0 nk ck1 n1 t1 f1 rs1 im1 H locs ls hk
      exact absurd hk (Nat.not_lt_zero _)
    | succ K ih_25 =>
      intro p0 nk ck1 n1 t1 f1 rs1 im1 H locs ls hk hP hD hS hl h1 h2 h3
      refine lv_iload hx hb dc_Vf_followsPartners_25 (lv_at hl 0 rfl) ?_
      refine lv_aload_n hx hb dc_Vf_followsPartners_27 rfl (lv_at hl 3 rfl) ?_
      refine va_get (ci := 8) (v := .ref xc) (C := rn_Vf) (T := fd_Vf) (N := 7) hx hb hts in_Vf hown hK hP 0 rfl rfl 0 (by decide) (hts _ wd_677) (fun _ h9 => h9) rfl dc_Vf_followsPartners_28 ?_
      refine va_getN (ci := 2) (v := .int (nI cn)) (C := rn_Cl) (T := fd_Cl) (N := 4) hx hb hts in_Cl hown hK hP 1 rfl rfl 3 (by decide) (nf_76 hN) (fun _ h9 => h9) rfl dc_Vf_followsPartners_31 ?_
      refine kn_icmp_gt hx hb (by omega) (by omega) dc_Vf_followsPartners_34 rfl (fun hc34 => ?_) (fun hc34 => ?_)
      · refine lv_iconst (v := nI 1) hx hb dc_Vf_followsPartners_161 (by decide +kernel) ?_
        refine kn_top (y := kb_i true) (by decide +kernel) ?_
        exact kw_zret hx hb hr hlocks hP hD hS dc_Vf_followsPartners_162 (by rw [← h1, vp_en (by omega)]) (by rw [← h1, vp_en (by omega)])
      · refine lv_aload_n hx hb dc_Vf_followsPartners_37 rfl (lv_at hl 3 rfl) ?_
        refine va_get (ci := 8) (v := .long (lN lv)) (C := rn_Vf) (T := fd_Vf) (N := 7) hx hb hts in_Vf hown hK hP 0 rfl rfl 4 (by decide) (hts _ wd_681) (fun _ h9 => h9) rfl dc_Vf_followsPartners_38 ?_
        refine lv_iload hx hb dc_Vf_followsPartners_41 (lv_at hl 0 rfl) ?_
        refine kr_call1 (va_runSN (As := [.long (lN lv), .int (nI p0)]) (rest := []) ⟨hx, hb, hml, hown, hts⟩ (ct_Pt_contains l D cI cZ _ lv p0 (hlv) (by omega)) ⟨va_cnB 2 hts (kx_gi wd_262) rfl rfl rfl (nw_706 hN) (hts _ wd_1) yd_Pt_contains ⟨Nat.le_of_ble_eq_true rfl, Nat.le_of_ble_eq_true rfl⟩, hts _ wd_261, trivial⟩ (kp_S hP hD hK hN [] rfl rfl) rfl rfl hl.1 rfl (lv_room (Nat.le_of_ble_eq_true rfl)) dc_Vf_followsPartners_43 ⟨Nat.le_of_ble_eq_true rfl, Nat.le_of_ble_eq_true rfl⟩) ?_
        refine kb_if_eq hx hb dc_Vf_followsPartners_46 rfl (fun hc46 => ?_) (fun hc46 => ?_)
        · refine lv_iinc (k := 0) (v := nI (p0 + 1)) (lv' := [(4, .int (nI (p0 + 1))), (3, .int (nI (2 ^ pb))), (2, .int (nI t)), (0, .ref o), (1, .int (nI j))]) hx hb dc_Vf_followsPartners_155 hl rfl (nI_1 _) (by decide) rfl (fun ls hl => ?_)
          refine lv_goto hx hb dc_Vf_followsPartners_158 rfl ?_
          exact ih_25 _ _ _ _ _ _ _ _ _ _ _ (by omega) hP hD hS hl (by rw [← h1]; exact (vp_no (by omega) (Or.inl hc46)).symm) (⟨by omega, by omega⟩) (by omega)
        · refine lv_aload_n hx hb dc_Vf_followsPartners_49 rfl (lv_at hl 3 rfl) ?_
          refine va_get (ci := 8) (v := .ref xc) (C := rn_Vf) (T := fd_Vf) (N := 7) hx hb hts in_Vf hown hK hP 0 rfl rfl 0 (by decide) (hts _ wd_677) (fun _ h9 => h9) rfl dc_Vf_followsPartners_50 ?_
          refine va_getN (ci := 2) (v := .ref cb) (C := rn_Cl) (T := fd_Cl) (N := 4) hx hb hts in_Cl hown hK hP 1 rfl rfl 1 (by decide) (nf_69 hN) (fun _ h9 => h9) rfl dc_Vf_followsPartners_53 ?_
          refine lv_iload hx hb dc_Vf_followsPartners_56 (lv_at hl 0 rfl) ?_
          refine ka_nald (t := fs) hx hb hK hP 3 0 rfl rfl (j := p0) (by omega) (by omega) dc_Vf_followsPartners_58 ?_
          refine lv_iload_n hx hb dc_Vf_followsPartners_59 rfl (lv_at hl 1 rfl) ?_
          refine kn_iand hx hb dc_Vf_followsPartners_60 ?_
          refine kn_if_ne hx hb (Nat.lt_of_le_of_lt Nat.and_le_left (Nat.lt_trans (h16 p0) (by decide))) dc_Vf_followsPartners_61 rfl (fun hc61 => ?_) (fun hc61 => ?_)
          · have hpn : ¬ (lv.testBit p0 = false ∨ fs p0 &&& 2 ^ pb = 0) := fun q => q.elim (fun q1 => by rw [hc46] at q1; exact absurd q1 (by decide)) hc61
            refine lv_aload_n hx hb dc_Vf_followsPartners_67 rfl (lv_at hl 3 rfl) ?_
            refine va_get (ci := 8) (v := .ref xt) (C := rn_Vf) (T := fd_Vf) (N := 7) hx hb hts in_Vf hown hK hP 0 rfl rfl 2 (by decide) (hts _ wd_679) (fun _ h9 => h9) rfl dc_Vf_followsPartners_68 ?_
            refine lv_iload_n hx hb dc_Vf_followsPartners_71 rfl (lv_at hl 4 rfl) ?_
            refine lv_aload_n hx hb dc_Vf_followsPartners_72 rfl (lv_at hl 3 rfl) ?_
            refine va_get (ci := 8) (v := .int (nI nk)) (C := rn_Vf) (T := fd_Vf) (N := 7) hx hb hts in_Vf hown hK hP 0 rfl rfl 5 (by decide) (hts _ wd_682) (fun _ h9 => h9) rfl dc_Vf_followsPartners_73 ?_
            refine kr_call1 (va_runV (As := [.int (nI j), .int (nI nk)]) (rest := []) ⟨hx, hb, hml, hown, hts⟩ (ct_Tr_hintAt l D cI cZ _ xt ta tb td g mk ckd ft fc fr j nk (hb0) (by omega) (by omega)) (cwV 2 hts (kx_gV wd_718 wd_276 wd_277 wd_7 wd_278) rfl rfl rfl ⟨rfl, yd_Tr_hintAt⟩ ⟨Nat.le_of_ble_eq_true rfl, Nat.le_of_ble_eq_true rfl⟩) (kp_V (q0 := 8) (ci := 5) hP hD hK hN [8, 9, 10, 11] rfl rfl rfl rfl rfl) rfl rfl hl.1 rfl (lv_room (Nat.le_of_ble_eq_true rfl)) dc_Vf_followsPartners_76 ⟨Nat.le_of_ble_eq_true rfl, Nat.le_of_ble_eq_true rfl⟩) ?_
            refine lv_iload hx hb dc_Vf_followsPartners_79 (lv_at hl 0 rfl) ?_
            refine lv_ineg hx hb dc_Vf_followsPartners_81 ?_
            refine lv_icmp_eq hx hb dc_Vf_followsPartners_82 rfl (fun hc82 => ?_) (fun hc82 => ?_)
            · have hnk : nk < pt_hc fc j := hv_lt (fun q => neg_n0 p0 (by omega) (by omega) (hc82.symm.trans q))
              refine lv_aload_n hx hb dc_Vf_followsPartners_87 rfl (lv_at hl 3 rfl) ?_
              refine lv_dup hx hb dc_Vf_followsPartners_88 rfl ?_
              refine va_get (ci := 8) (v := .int (nI nk)) (C := rn_Vf) (T := fd_Vf) (N := 7) hx hb hts in_Vf hown hK hP 0 rfl rfl 5 (by decide) (hts _ wd_682) (fun _ h9 => h9) rfl dc_Vf_followsPartners_89 ?_
              refine lv_iconst (v := nI 1) hx hb dc_Vf_followsPartners_92 (by decide +kernel) ?_
              refine kn_iadd hx hb dc_Vf_followsPartners_93 ?_
              refine va_put (ci := 8) (v := .int (nI (nk + 1))) (ty := .int) (C := rn_Vf) (T := fd_Vf) (N := 7) hx hb hts in_Vf ty_Vf tk_Vf nm_Vf hown hK hP hD hS 0 rfl rfl 5 (by decide) (hts _ wd_682) (fun _ h9 => h9) rfl (by decide +kernel) rfl rfl (Nat.le_of_ble_eq_true rfl) dc_Vf_followsPartners_94 (fun H locs hP hD hS => ?_)
              have hP : va_P D kc_l [vf_c o xc xs xt xa lv (nk + 1) ck1, cl_c xc ca cb cd cn, ar_n cI ca 33 fz, ar_n cI cb 33 fs, ar_i cI cd (33 * 8) fl, as_c xa aa ab n1 t1 f1, ar_n cI aa 8 rs1, ar_n cI ab 8 im1, tr_c xt ta tb td g mk ckd, ar_n cI ta 33 ft, ar_n cI tb 33 fc, ar_i cI td 2048 fr] H := hP
              have hD : va_D A [vf_c o xc xs xt xa lv (nk + 1) ck1, cl_c xc ca cb cd cn, ar_n cI ca 33 fz, ar_n cI cb 33 fs, ar_i cI cd (33 * 8) fl, as_c xa aa ab n1 t1 f1, ar_n cI aa 8 rs1, ar_n cI ab 8 im1, tr_c xt ta tb td g mk ckd, ar_n cI ta 33 ft, ar_n cI tb 33 fc, ar_i cI td 2048 fr] := hD
              refine lv_aload_n hx hb dc_Vf_followsPartners_97 rfl (lv_at hl 3 rfl) ?_
              refine va_get (ci := 8) (v := .ref xc) (C := rn_Vf) (T := fd_Vf) (N := 7) hx hb hts in_Vf hown hK hP 0 rfl rfl 0 (by decide) (hts _ wd_677) (fun _ h9 => h9) rfl dc_Vf_followsPartners_98 ?_
              refine va_getN (ci := 2) (v := .ref cb) (C := rn_Cl) (T := fd_Cl) (N := 4) hx hb hts in_Cl hown hK hP 1 rfl rfl 1 (by decide) (nf_69 hN) (fun _ h9 => h9) rfl dc_Vf_followsPartners_101 ?_
              refine lv_iload hx hb dc_Vf_followsPartners_104 (lv_at hl 0 rfl) ?_
              refine ka_nald (t := fs) hx hb hK hP 3 0 rfl rfl (j := p0) (by omega) (by omega) dc_Vf_followsPartners_106 ?_
              refine lv_iload_n hx hb dc_Vf_followsPartners_107 rfl (lv_at hl 1 rfl) ?_
              refine lv_iconst (v := (-1)) hx hb dc_Vf_followsPartners_108 (by decide +kernel) ?_
              refine lv_ixor hx hb dc_Vf_followsPartners_109 ?_
              refine kn_inot hx hb dc_Vf_followsPartners_110 ?_
              refine lv_istore (lv' := [(5, .int (nI (nb_d (fs p0) (2 ^ pb)))), (4, .int (nI p0)), (3, .int (nI (2 ^ pb))), (2, .int (nI t)), (0, .ref o), (1, .int (nI j))]) hx hb dc_Vf_followsPartners_111 hl (by decide) rfl (fun ls hl => ?_)
              refine lv_iload hx hb dc_Vf_followsPartners_113 (lv_at hl 0 rfl) ?_
              refine lv_iload_n hx hb dc_Vf_followsPartners_115 rfl (lv_at hl 3 rfl) ?_
              refine kn_iand hx hb dc_Vf_followsPartners_116 ?_
              refine kn_if_eq hx hb (Nat.lt_of_le_of_lt Nat.and_le_left (Nat.lt_trans (nb_d_lt (n := 16) (h16 p0)) (by decide))) dc_Vf_followsPartners_117 rfl (fun hc117 => ?_) (fun hc117 => ?_)
              · have ho16 : nb_d (fs p0) (2 ^ pb) < 65536 := nb_d_lt (n := 16) (h16 p0)
                have hnt : (t ||| nb_op (nb_d (fs p0) (2 ^ pb))) < 65536 := Nat.or_lt_two_pow (n := 16) ht16 (nb_op_lt ho16)
                have hcap9 : pt_cap 0 (t ||| nb_op (nb_d (fs p0) (2 ^ pb))) (nb_op (t ||| nb_op (nb_d (fs p0) (2 ^ pb)))) := ⟨hnt, rfl, by have := free_le (t ||| nb_op (nb_d (fs p0) (2 ^ pb))); omega⟩
                refine lv_aload_n hx hb dc_Vf_followsPartners_123 rfl (lv_at hl 4 rfl) ?_
                refine va_get (ci := 8) (v := .ref xa) (C := rn_Vf) (T := fd_Vf) (N := 7) hx hb hts in_Vf hown hK hP 0 rfl rfl 3 (by decide) (hts _ wd_680) (fun _ h9 => h9) rfl dc_Vf_followsPartners_124 ?_
                refine lv_iload_n hx hb dc_Vf_followsPartners_127 rfl (lv_at hl 3 rfl) ?_
                refine lv_iload hx hb dc_Vf_followsPartners_128 (lv_at hl 0 rfl) ?_
                refine kr_call1 (va_runSN (As := [.int (nI (nb_d (fs p0) (2 ^ pb)))]) (rest := [.int (nI t), .ref xa]) ⟨hx, hb, hml, hown, hts⟩ (ct_Pt_opposites l D cI cZ _ (nb_d (fs p0) (2 ^ pb)) (ho16)) ⟨va_cnB 1 hts (kx_gi wd_613) rfl rfl rfl (nw_711 hN) (hts _ wd_1) yd_Pt_opposites ⟨Nat.le_of_ble_eq_true rfl, Nat.le_of_ble_eq_true rfl⟩, hts _ wd_612, trivial⟩ (kp_S hP hD hK hN [] rfl rfl) rfl rfl hl.1 rfl (lv_room (Nat.le_of_ble_eq_true rfl)) dc_Vf_followsPartners_130 ⟨Nat.le_of_ble_eq_true rfl, Nat.le_of_ble_eq_true rfl⟩) ?_
                refine kn_ior hx hb dc_Vf_followsPartners_133 ?_
                refine lv_iconst (v := nI 0) hx hb dc_Vf_followsPartners_134 (by decide +kernel) ?_
                refine kw_call0 (wr := [vf_c o xc xs xt xa lv (nk + 1) ck1, cl_c xc ca cb cd cn, ar_n cI ca 33 fz, ar_n cI cb 33 fs, ar_i cI cd (33 * 8) fl, ar_n cI aa 8 rs1, ar_n cI ab 8 im1, tr_c xt ta tb td g mk ckd, ar_n cI ta 33 ft, ar_n cI tb 33 fc, ar_i cI td 2048 fr]) (ws' := [vf_c o xc xs xt xa lv (nk + 1) ck1, cl_c xc ca cb cd cn, ar_n cI ca 33 fz, ar_n cI cb 33 fs, ar_i cI cd (33 * 8) fl, as_c xa aa ab 0 (t ||| (nb_op (nb_d (fs p0) (2 ^ pb)))) (nb_op (t ||| (nb_op (nb_d (fs p0) (2 ^ pb))))), ar_n cI aa 8 rs1, ar_n cI ab 8 im1, tr_c xt ta tb td g mk ckd, ar_n cI ta 33 ft, ar_n cI tb 33 fc, ar_i cI td 2048 fr]) (va_runV (As := [.int (nI (t ||| (nb_op (nb_d (fs p0) (2 ^ pb))))), .int (nI 0)]) (rest := []) ⟨hx, hb, hml, hown, hts⟩ (ct_As_restart l D cI cZ _ xa aa ab n1 t1 f1 (t ||| (nb_op (nb_d (fs p0) (2 ^ pb)))) 0 (hnt)) (cwV 2 hts (kx_gV wd_712 wd_616 wd_617 wd_8 wd_618) rfl rfl rfl ⟨rfl, yd_As_restart⟩ ⟨Nat.le_of_ble_eq_true rfl, Nat.le_of_ble_eq_true rfl⟩) (kp_V (q0 := 5) (ci := 6) hP hD hK hN [5] rfl rfl rfl rfl rfl) rfl rfl hl.1 rfl (lv_room (Nat.le_of_ble_eq_true rfl)) dc_Vf_followsPartners_135 ⟨Nat.le_of_ble_eq_true rfl, Nat.le_of_ble_eq_true rfl⟩) hP hD hS hA [5] [0, 1, 2, 3, 4, 6, 7, 8, 9, 10, 11] [0, 1, 2, 3, 4, 11, 5, 6, 7, 8, 9, 10] rfl rfl rfl (by decide) rfl rfl (fun H locs hP hD hS => ?_)
                refine lv_aload_n hx hb dc_Vf_followsPartners_138 rfl (lv_at hl 4 rfl) ?_
                refine lv_iload_n hx hb dc_Vf_followsPartners_139 rfl (lv_at hl 5 rfl) ?_
                refine kw_call1 (wr := []) (ws' := [vf_c o xc xs xt xa lv ((pt_fp fs lv cn (fun k => pt_hv ft fc fr j k) (pt_hc fc j - (nk + 1)) (nk + 1) false 0 (t ||| (nb_op (nb_d (fs p0) (2 ^ pb)))) (nb_op (t ||| (nb_op (nb_d (fs p0) (2 ^ pb))))) rs1 im1).2.1) ((pt_fp fs lv cn (fun k => pt_hv ft fc fr j k) (pt_hc fc j - (nk + 1)) (nk + 1) false 0 (t ||| (nb_op (nb_d (fs p0) (2 ^ pb)))) (nb_op (t ||| (nb_op (nb_d (fs p0) (2 ^ pb))))) rs1 im1).2.2.1), cl_c xc ca cb cd cn, ar_n cI ca 33 fz, ar_n cI cb 33 fs, ar_i cI cd (33 * 8) fl, as_c xa aa ab ((pt_fp fs lv cn (fun k => pt_hv ft fc fr j k) (pt_hc fc j - (nk + 1)) (nk + 1) false 0 (t ||| (nb_op (nb_d (fs p0) (2 ^ pb)))) (nb_op (t ||| (nb_op (nb_d (fs p0) (2 ^ pb))))) rs1 im1).2.2.2.1) ((pt_fp fs lv cn (fun k => pt_hv ft fc fr j k) (pt_hc fc j - (nk + 1)) (nk + 1) false 0 (t ||| (nb_op (nb_d (fs p0) (2 ^ pb)))) (nb_op (t ||| (nb_op (nb_d (fs p0) (2 ^ pb))))) rs1 im1).2.2.2.2.1) ((pt_fp fs lv cn (fun k => pt_hv ft fc fr j k) (pt_hc fc j - (nk + 1)) (nk + 1) false 0 (t ||| (nb_op (nb_d (fs p0) (2 ^ pb)))) (nb_op (t ||| (nb_op (nb_d (fs p0) (2 ^ pb))))) rs1 im1).2.2.2.2.2.1), ar_n cI aa 8 ((pt_fp fs lv cn (fun k => pt_hv ft fc fr j k) (pt_hc fc j - (nk + 1)) (nk + 1) false 0 (t ||| (nb_op (nb_d (fs p0) (2 ^ pb)))) (nb_op (t ||| (nb_op (nb_d (fs p0) (2 ^ pb))))) rs1 im1).2.2.2.2.2.2.1), ar_n cI ab 8 ((pt_fp fs lv cn (fun k => pt_hv ft fc fr j k) (pt_hc fc j - (nk + 1)) (nk + 1) false 0 (t ||| (nb_op (nb_d (fs p0) (2 ^ pb)))) (nb_op (t ||| (nb_op (nb_d (fs p0) (2 ^ pb))))) rs1 im1).2.2.2.2.2.2.2), tr_c xt ta tb td g mk ckd, ar_n cI ta 33 ft, ar_n cI tb 33 fc, ar_i cI td 2048 fr]) (va_runV (As := [.int (nI j)]) (rest := []) ⟨hx, hb, hml, hown, hts⟩ (ct_Vf_followsPositives l D cI cZ _ o xc xs xt xa lv (nk + 1) ck1 ca cb cd cn fz fs fl aa ab 0 (t ||| (nb_op (nb_d (fs p0) (2 ^ pb)))) (nb_op (t ||| (nb_op (nb_d (fs p0) (2 ^ pb))))) rs1 im1 ta tb td g mk ckd ft fc fr j (hcn) (h16) (hlv) (hb0) (by omega) (hcap9) (by omega)) (cwV 1 hts (kx_gV wd_713 wd_715 (kx_sel (q := (yn_Vf_followsPositives, 7)) (List.mem_append_left _ (List.mem_of_getElem? (i := 9) rfl))) wd_22 wd_716) rfl rfl rfl ⟨rfl, yd_Vf_followsPositives⟩ ⟨Nat.le_of_ble_eq_true rfl, Nat.le_of_ble_eq_true rfl⟩) (kp_V (q0 := 0) (ci := 8) hP hD hK hN [0, 1, 2, 3, 4, 5, 6, 7, 8, 9, 10, 11] rfl rfl rfl rfl rfl) rfl rfl hl.1 rfl (lv_room (Nat.le_of_ble_eq_true rfl)) dc_Vf_followsPartners_140 ⟨Nat.le_of_ble_eq_true rfl, Nat.le_of_ble_eq_true rfl⟩) hP hD hS hA [0, 1, 2, 3, 4, 5, 6, 7, 8, 9, 10, 11] [] [0, 1, 2, 3, 4, 5, 6, 7, 8, 9, 10, 11] rfl rfl rfl (by decide) rfl rfl (fun H locs hP hD hS => ?_)
                have hfx := fp_nx fs lv cn (fun k => pt_hv ft fc fr j k) (pt_hc fc j - (nk + 1)) (nk + 1) false 0 (t ||| nb_op (nb_d (fs p0) (2 ^ pb))) (nb_op (t ||| nb_op (nb_d (fs p0) (2 ^ pb)))) rs1 im1
                generalize hZe : pt_fp fs lv cn (fun k => pt_hv ft fc fr j k) (pt_hc fc j - (nk + 1)) (nk + 1) false 0 (t ||| nb_op (nb_d (fs p0) (2 ^ pb))) (nb_op (t ||| nb_op (nb_d (fs p0) (2 ^ pb)))) rs1 im1 = ZZ at hP hD hfx ⊢
                refine kb_if_eq hx hb dc_Vf_followsPartners_143 rfl (fun hc143 => ?_) (fun hc143 => ?_)
                · refine lv_iconst (v := nI 0) hx hb dc_Vf_followsPartners_153 (by decide +kernel) ?_
                  refine kn_top (y := kb_i false) (by decide +kernel) ?_
                  exact kw_zret hx hb hr hlocks hP hD hS dc_Vf_followsPartners_154 (by rw [← h1, vp_bad (by omega) hpn hc82 hc117 hZe (fun q => by rw [hc143] at q; exact absurd q.1 (by decide))]) (by rw [← h1, vp_bad (by omega) hpn hc82 hc117 hZe (fun q => by rw [hc143] at q; exact absurd q.1 (by decide))])
                · refine lv_aload_n hx hb dc_Vf_followsPartners_146 rfl (lv_at hl 4 rfl) ?_
                  refine va_get (ci := 8) (v := .int (kb_i ZZ.2.2.1)) (C := rn_Vf) (T := fd_Vf) (N := 7) hx hb hts in_Vf hown hK hP 0 rfl rfl 6 (by decide) (hts _ wd_683) (fun _ h9 => h9) rfl dc_Vf_followsPartners_147 ?_
                  refine kb_if_ne hx hb dc_Vf_followsPartners_150 rfl (fun hc150 => ?_) (fun hc150 => ?_)
                  · refine lv_iinc (k := 1) (v := nI (p0 + 1)) (lv' := [(4, .int (nI (p0 + 1))), (5, .int (nI (nb_d (fs p0) (2 ^ pb)))), (3, .int (nI (2 ^ pb))), (2, .int (nI t)), (0, .ref o), (1, .int (nI j))]) hx hb dc_Vf_followsPartners_155 hl rfl (nI_1 _) (by decide) rfl (fun ls hl => ?_)
                    refine lv_goto hx hb dc_Vf_followsPartners_158 rfl ?_
                    have hl := lv_sub (l' := [(4, .int (nI (p0 + 1))), (3, .int (nI (2 ^ pb))), (2, .int (nI t)), (0, .ref o), (1, .int (nI j))]) hl [0, 2, 3, 4, 5] rfl
                    exact ih_25 _ _ _ _ _ _ _ _ _ _ _ (by omega) hP hD hS hl (by rw [← h1]; exact (vp_go (by omega) hpn hc82 hc117 hZe ⟨hc143, hc150⟩).symm) (⟨by omega, by omega⟩) (by omega)
                  · refine lv_iconst (v := nI 0) hx hb dc_Vf_followsPartners_153 (by decide +kernel) ?_
                    refine kn_top (y := kb_i false) (by decide +kernel) ?_
                    exact kw_zret hx hb hr hlocks hP hD hS dc_Vf_followsPartners_154 (by rw [← h1, vp_bad (by omega) hpn hc82 hc117 hZe (fun q => by rw [hc150] at q; exact absurd q.2 (by decide))]) (by rw [← h1, vp_bad (by omega) hpn hc82 hc117 hZe (fun q => by rw [hc150] at q; exact absurd q.2 (by decide))])
              · refine lv_goto hx hb dc_Vf_followsPartners_120 rfl ?_
                refine lv_iinc (k := 1) (v := nI (p0 + 1)) (lv' := [(4, .int (nI (p0 + 1))), (5, .int (nI (nb_d (fs p0) (2 ^ pb)))), (3, .int (nI (2 ^ pb))), (2, .int (nI t)), (0, .ref o), (1, .int (nI j))]) hx hb dc_Vf_followsPartners_155 hl rfl (nI_1 _) (by decide) rfl (fun ls hl => ?_)
                refine lv_goto hx hb dc_Vf_followsPartners_158 rfl ?_
                have hl := lv_sub (l' := [(4, .int (nI (p0 + 1))), (3, .int (nI (2 ^ pb))), (2, .int (nI t)), (0, .ref o), (1, .int (nI j))]) hl [0, 2, 3, 4, 5] rfl
                exact ih_25 _ _ _ _ _ _ _ _ _ _ _ (by omega) hP hD hS hl (by rw [← h1]; exact (vp_true (by omega) hpn hc82 hc117).symm) (⟨by omega, by omega⟩) (by omega)
            · refine lv_iconst (v := nI 0) hx hb dc_Vf_followsPartners_85 (by decide +kernel) ?_
              refine kn_top (y := kb_i false) (by decide +kernel) ?_
              exact kw_zret hx hb hr hlocks hP hD hS dc_Vf_followsPartners_86 (by rw [← h1, vp_hint (by omega) hpn hc82]) (by rw [← h1, vp_hint (by omega) hpn hc82])
          · refine lv_goto hx hb dc_Vf_followsPartners_64 rfl ?_
            refine lv_iinc (k := 0) (v := nI (p0 + 1)) (lv' := [(4, .int (nI (p0 + 1))), (3, .int (nI (2 ^ pb))), (2, .int (nI t)), (0, .ref o), (1, .int (nI j))]) hx hb dc_Vf_followsPartners_155 hl rfl (nI_1 _) (by decide) rfl (fun ls hl => ?_)
            refine lv_goto hx hb dc_Vf_followsPartners_158 rfl ?_
            exact ih_25 _ _ _ _ _ _ _ _ _ _ _ (by omega) hP hD hS hl (by rw [← h1]; exact (vp_no (by omega) (Or.inr hc61)).symm) (⟨by omega, by omega⟩) (by omega)
  exact lp_25 _ _ _ _ _ _ _ _ _ _ _ _ (Nat.lt_succ_self _) hP hD hS hl (rfl) (⟨by omega, by omega⟩) (hnx)

theorem fp_t {fs : Nat → Nat} {lv cn : Nat} {hv : Nat → Int32} (h16 : ∀ j, fs j < 65536) : ∀ (k nx : Nat) (cf : Bool) (n t f : Nat) (rs im : Nat → Nat), t < 65536 → (pt_fp fs lv cn hv k nx cf n t f rs im).2.2.2.2.1 < 65536 := by
  intro k
  induction k with
  | zero => intro nx cf n t f rs im h; exact h
  | succ k ih =>
    intro nx cf n t f rs im h
    rw [pt_fp]
    split
    · exact h
    · split
      · exact h
      · split
        · exact ih _ _ _ _ _ _ _ h
        · exact ih _ _ _ _ _ _ _ (Nat.or_lt_two_pow (n := 16) h (nb_d_lt (n := 16) (h16 _)))
theorem vp_nx (fs : Nat → Nat) (lv cn pv rc : Nat) (ft fc : Nat → Nat) (fr : Nat → Int32) (j : Nat) (hcn : cn ≤ 32) : ∀ (k p nx : Nat) (cf : Bool) (n t f : Nat) (rs im : Nat → Nat), 1 ≤ p → p + k ≤ 33 → nx ≤ pt_hc fc j → (pt_vp fs lv cn pv rc (fun k => pt_hv ft fc fr j k) (pt_hc fc j) k p nx cf n t f rs im).2.1 ≤ pt_hc fc j := by
  intro k
  induction k with
  | zero => intro p nx cf n t f rs im _ _ h; exact h
  | succ k ih =>
    intro p nx cf n t f rs im hp hpk h
    rw [pt_vp]
    split
    · exact ih _ _ _ _ _ _ _ _ (by omega) (by omega) h
    · split
      · exact h
      · rename_i hh
        have hh := Classical.not_not.mp hh
        have hk : nx < pt_hc fc j := hv_lt (fun q => neg_n0 p (by omega) hp (hh.symm.trans q))
        split
        · exact ih _ _ _ _ _ _ _ _ (by omega) (by omega) (by omega)
        · dsimp only
          have hfx := fp_nx fs lv cn (fun k => pt_hv ft fc fr j k) (pt_hc fc j - (nx + 1)) (nx + 1) false 0 (rc ||| nb_op (nb_d (fs p) pv)) (nb_op (rc ||| nb_op (nb_d (fs p) pv))) rs im
          split
          · exact ih _ _ _ _ _ _ _ _ (by omega) (by omega) (by omega)
          · show (pt_fp _ _ _ _ _ _ _ _ _ _ _ _).2.1 ≤ _
            omega

set_option maxHeartbeats 4000000 in
set_option maxRecDepth 100000 in
theorem ct_Vf_isGood (l : Launch) (D : va_G) (cI cZ : ClassId) (sz : Nat) (o : Nat) (xc : Nat) (xs : Nat) (xt : Nat) (xa : Nat) (lv : Nat) (nx : Nat) (cf : Bool) (ca : Nat) (cb : Nat) (cd : Nat) (cn : Nat) (fz : Nat → Nat) (fs : Nat → Nat) (fl : Nat → Int32) (aa : Nat) (ab : Nat) (n : Nat) (t : Nat) (f : Nat) (rs : Nat → Nat) (im : Nat → Nat) (ta : Nat) (tb : Nat) (td : Nat) (g : Nat) (mk : Nat) (ckd : Bool) (ft : Nat → Nat) (fc : Nat → Nat) (fr : Nat → Int32) (j : Nat) (qb : Nat) (pb : Nat) (hcn : cn ≤ 32) (h16 : ∀ j, fs j < 65536) (hlv : lv < 2 ^ 62) (hb0 : ∀ j, 1 ≤ j → j ≤ 32 → ft j + fc j ≤ 2048) (hz : ∀ i, 1 ≤ i → i ≤ cn → fz i ≤ 8) (hj1 : 1 ≤ j) (hj2 : j ≤ cn) (hlit : 1 ≤ fz j → qb < 16 ∧ fl (j * 8) = pt_lit qb ∧ (qb + 8) % 16 = pb) : Met l yn_Vf_isGood (Cond.code yn_Vf_isGood bc_Vf_isGood 2 (some .boolean) :: kx_all) ({ frames := 4, cells := 0, slots := 0, locals := 90 } : Room) (kp [.ref o, .int (nI j)] D cI cZ [vf_c o xc xs xt xa lv nx cf, cl_c xc ca cb cd cn, ar_n cI ca 33 fz, ar_n cI cb 33 fs, ar_i cI cd (33 * 8) fl, as_c xa aa ab n t f, ar_n cI aa 8 rs, ar_n cI ab 8 im, tr_c xt ta tb td g mk ckd, ar_n cI ta 33 ft, ar_n cI tb 33 fc, ar_i cI td 2048 fr] sz) (kw_q (some (.int (kb_i ((pt_good fs lv cn (fz j) pb (fs j) (fun k => pt_hv ft fc fr j k) (pt_hc fc j) rs im).1)))) D kc_l [vf_c o xc xs xt xa lv ((pt_good fs lv cn (fz j) pb (fs j) (fun k => pt_hv ft fc fr j k) (pt_hc fc j) rs im).2.1) ((pt_good fs lv cn (fz j) pb (fs j) (fun k => pt_hv ft fc fr j k) (pt_hc fc j) rs im).2.2.1), cl_c xc ca cb cd cn, ar_n cI ca 33 fz, ar_n cI cb 33 fs, ar_i cI cd (33 * 8) fl, as_c xa aa ab ((pt_good fs lv cn (fz j) pb (fs j) (fun k => pt_hv ft fc fr j k) (pt_hc fc j) rs im).2.2.2.1) ((pt_good fs lv cn (fz j) pb (fs j) (fun k => pt_hv ft fc fr j k) (pt_hc fc j) rs im).2.2.2.2.1) ((pt_good fs lv cn (fz j) pb (fs j) (fun k => pt_hv ft fc fr j k) (pt_hc fc j) rs im).2.2.2.2.2.1), ar_n cI aa 8 ((pt_good fs lv cn (fz j) pb (fs j) (fun k => pt_hv ft fc fr j k) (pt_hc fc j) rs im).2.2.2.2.2.2.1), ar_n cI ab 8 ((pt_good fs lv cn (fz j) pb (fs j) (fun k => pt_hv ft fc fr j k) (pt_hc fc j) rs im).2.2.2.2.2.2.2), tr_c xt ta tb td g mk ckd, ar_n cI ta 33 ft, ar_n cI tb 33 fc, ar_i cI td 2048 fr] (va_A [vf_c o xc xs xt xa lv nx cf, cl_c xc ca cb cd cn, ar_n cI ca 33 fz, ar_n cI cb 33 fs, ar_i cI cd (33 * 8) fl, as_c xa aa ab n t f, ar_n cI aa 8 rs, ar_n cI ab 8 im, tr_c xt ta tb td g mk ckd, ar_n cI ta 33 ft, ar_n cI tb 33 fc, ar_i cI td 2048 fr] sz)) 0 0 (va_A [vf_c o xc xs xt xa lv nx cf, cl_c xc ca cb cd cn, ar_n cI ca 33 fz, ar_n cI cb 33 fs, ar_i cI cd (33 * 8) fl, as_c xa aa ab n t f, ar_n cI aa 8 rs, ar_n cI ab 8 im, tr_c xt ta tb td g mk ckd, ar_n cI ta 33 ft, ar_n cI tb 33 fc, ar_i cI td 2048 fr] sz) := by
  refine kx_metW (by decide) (Nat.le_of_ble_eq_true rfl) ?_
  intro p e s m below meth c ls A hx hb hr hml hts hown hlocks hin hA hP hK hD hN hl hS
  have hown : s.vm.findClass rn_Vf = some m.cls := hown
  have hl : lv_has ls 2 [(0, .ref o), (1, .int (nI j))] := hl
  have hcb : pt_hc fc j ≤ 2048 := by
    unfold pt_hc
    split
    · have := hb0 j (by omega) (by omega); omega
    · decide
  have hx16 := nb_op_lt (h16 j)
  have hcap0 : pt_cap 0 (nb_op (fs j)) (nb_op (nb_op (fs j))) := ⟨hx16, rfl, by have := free_le (nb_op (fs j)); omega⟩
  refine lv_aload_n hx hb dc_Vf_isGood_0 rfl (lv_at hl 0 rfl) ?_
  refine lv_iconst (v := nI 0) hx hb dc_Vf_isGood_1 (by decide +kernel) ?_
  refine va_put (ci := 8) (v := .int (nI 0)) (ty := .int) (C := rn_Vf) (T := fd_Vf) (N := 7) hx hb hts in_Vf ty_Vf tk_Vf nm_Vf hown hK hP hD hS 0 rfl rfl 5 (by decide) (hts _ wd_682) (fun _ h9 => h9) rfl (by decide +kernel) rfl rfl (Nat.le_of_ble_eq_true rfl) dc_Vf_isGood_2 (fun H locs hP hD hS => ?_)
  have hP : va_P D kc_l [vf_c o xc xs xt xa lv 0 cf, cl_c xc ca cb cd cn, ar_n cI ca 33 fz, ar_n cI cb 33 fs, ar_i cI cd (33 * 8) fl, as_c xa aa ab n t f, ar_n cI aa 8 rs, ar_n cI ab 8 im, tr_c xt ta tb td g mk ckd, ar_n cI ta 33 ft, ar_n cI tb 33 fc, ar_i cI td 2048 fr] H := hP
  have hD : va_D A [vf_c o xc xs xt xa lv 0 cf, cl_c xc ca cb cd cn, ar_n cI ca 33 fz, ar_n cI cb 33 fs, ar_i cI cd (33 * 8) fl, as_c xa aa ab n t f, ar_n cI aa 8 rs, ar_n cI ab 8 im, tr_c xt ta tb td g mk ckd, ar_n cI ta 33 ft, ar_n cI tb 33 fc, ar_i cI td 2048 fr] := hD
  refine lv_aload_n hx hb dc_Vf_isGood_5 rfl (lv_at hl 0 rfl) ?_
  refine va_get (ci := 8) (v := .ref xa) (C := rn_Vf) (T := fd_Vf) (N := 7) hx hb hts in_Vf hown hK hP 0 rfl rfl 3 (by decide) (hts _ wd_680) (fun _ h9 => h9) rfl dc_Vf_isGood_6 ?_
  refine lv_aload_n hx hb dc_Vf_isGood_9 rfl (lv_at hl 0 rfl) ?_
  refine va_get (ci := 8) (v := .ref xc) (C := rn_Vf) (T := fd_Vf) (N := 7) hx hb hts in_Vf hown hK hP 0 rfl rfl 0 (by decide) (hts _ wd_677) (fun _ h9 => h9) rfl dc_Vf_isGood_10 ?_
  refine va_getN (ci := 2) (v := .ref cb) (C := rn_Cl) (T := fd_Cl) (N := 4) hx hb hts in_Cl hown hK hP 1 rfl rfl 1 (by decide) (nf_69 hN) (fun _ h9 => h9) rfl dc_Vf_isGood_13 ?_
  refine lv_iload_n hx hb dc_Vf_isGood_16 rfl (lv_at hl 1 rfl) ?_
  refine ka_nald (t := fs) hx hb hK hP 3 0 rfl rfl (j := j) (by omega) (by omega) dc_Vf_isGood_17 ?_
  refine kr_call1 (va_runSN (As := [.int (nI (fs j))]) (rest := [.ref xa]) ⟨hx, hb, hml, hown, hts⟩ (ct_Pt_opposites l D cI cZ _ (fs j) (h16 j)) ⟨va_cnB 1 hts (kx_gi wd_613) rfl rfl rfl (nw_711 hN) (hts _ wd_1) yd_Pt_opposites ⟨Nat.le_of_ble_eq_true rfl, Nat.le_of_ble_eq_true rfl⟩, hts _ wd_612, trivial⟩ (kp_S hP hD hK hN [] rfl rfl) rfl rfl hl.1 rfl (lv_room (Nat.le_of_ble_eq_true rfl)) dc_Vf_isGood_18 ⟨Nat.le_of_ble_eq_true rfl, Nat.le_of_ble_eq_true rfl⟩) ?_
  refine lv_iconst (v := nI 0) hx hb dc_Vf_isGood_21 (by decide +kernel) ?_
  refine kw_call0 (wr := [vf_c o xc xs xt xa lv 0 cf, cl_c xc ca cb cd cn, ar_n cI ca 33 fz, ar_n cI cb 33 fs, ar_i cI cd (33 * 8) fl, ar_n cI aa 8 rs, ar_n cI ab 8 im, tr_c xt ta tb td g mk ckd, ar_n cI ta 33 ft, ar_n cI tb 33 fc, ar_i cI td 2048 fr]) (ws' := [vf_c o xc xs xt xa lv 0 cf, cl_c xc ca cb cd cn, ar_n cI ca 33 fz, ar_n cI cb 33 fs, ar_i cI cd (33 * 8) fl, as_c xa aa ab 0 (nb_op (fs j)) (nb_op (nb_op (fs j))), ar_n cI aa 8 rs, ar_n cI ab 8 im, tr_c xt ta tb td g mk ckd, ar_n cI ta 33 ft, ar_n cI tb 33 fc, ar_i cI td 2048 fr]) (va_runV (As := [.int (nI (nb_op (fs j))), .int (nI 0)]) (rest := []) ⟨hx, hb, hml, hown, hts⟩ (ct_As_restart l D cI cZ _ xa aa ab n t f (nb_op (fs j)) 0 (hx16)) (cwV 2 hts (kx_gV wd_712 wd_616 wd_617 wd_8 wd_618) rfl rfl rfl ⟨rfl, yd_As_restart⟩ ⟨Nat.le_of_ble_eq_true rfl, Nat.le_of_ble_eq_true rfl⟩) (kp_V (q0 := 5) (ci := 6) hP hD hK hN [5] rfl rfl rfl rfl rfl) rfl rfl hl.1 rfl (lv_room (Nat.le_of_ble_eq_true rfl)) dc_Vf_isGood_22 ⟨Nat.le_of_ble_eq_true rfl, Nat.le_of_ble_eq_true rfl⟩) hP hD hS hA [5] [0, 1, 2, 3, 4, 6, 7, 8, 9, 10, 11] [0, 1, 2, 3, 4, 11, 5, 6, 7, 8, 9, 10] rfl rfl rfl (by decide) rfl rfl (fun H locs hP hD hS => ?_)
  refine lv_aload_n hx hb dc_Vf_isGood_25 rfl (lv_at hl 0 rfl) ?_
  refine lv_iload_n hx hb dc_Vf_isGood_26 rfl (lv_at hl 1 rfl) ?_
  refine kw_call1 (wr := []) (ws' := [vf_c o xc xs xt xa lv ((pt_fp fs lv cn (fun k => pt_hv ft fc fr j k) (pt_hc fc j - 0) 0 false 0 (nb_op (fs j)) (nb_op (nb_op (fs j))) rs im).2.1) ((pt_fp fs lv cn (fun k => pt_hv ft fc fr j k) (pt_hc fc j - 0) 0 false 0 (nb_op (fs j)) (nb_op (nb_op (fs j))) rs im).2.2.1), cl_c xc ca cb cd cn, ar_n cI ca 33 fz, ar_n cI cb 33 fs, ar_i cI cd (33 * 8) fl, as_c xa aa ab ((pt_fp fs lv cn (fun k => pt_hv ft fc fr j k) (pt_hc fc j - 0) 0 false 0 (nb_op (fs j)) (nb_op (nb_op (fs j))) rs im).2.2.2.1) ((pt_fp fs lv cn (fun k => pt_hv ft fc fr j k) (pt_hc fc j - 0) 0 false 0 (nb_op (fs j)) (nb_op (nb_op (fs j))) rs im).2.2.2.2.1) ((pt_fp fs lv cn (fun k => pt_hv ft fc fr j k) (pt_hc fc j - 0) 0 false 0 (nb_op (fs j)) (nb_op (nb_op (fs j))) rs im).2.2.2.2.2.1), ar_n cI aa 8 ((pt_fp fs lv cn (fun k => pt_hv ft fc fr j k) (pt_hc fc j - 0) 0 false 0 (nb_op (fs j)) (nb_op (nb_op (fs j))) rs im).2.2.2.2.2.2.1), ar_n cI ab 8 ((pt_fp fs lv cn (fun k => pt_hv ft fc fr j k) (pt_hc fc j - 0) 0 false 0 (nb_op (fs j)) (nb_op (nb_op (fs j))) rs im).2.2.2.2.2.2.2), tr_c xt ta tb td g mk ckd, ar_n cI ta 33 ft, ar_n cI tb 33 fc, ar_i cI td 2048 fr]) (va_runV (As := [.int (nI j)]) (rest := []) ⟨hx, hb, hml, hown, hts⟩ (ct_Vf_followsPositives l D cI cZ _ o xc xs xt xa lv 0 cf ca cb cd cn fz fs fl aa ab 0 (nb_op (fs j)) (nb_op (nb_op (fs j))) rs im ta tb td g mk ckd ft fc fr j (hcn) (h16) (hlv) (hb0) (by omega) (hcap0) (by omega)) (cwV 1 hts (kx_gV wd_713 wd_715 (kx_sel (q := (yn_Vf_followsPositives, 7)) (List.mem_append_left _ (List.mem_of_getElem? (i := 9) rfl))) wd_22 wd_716) rfl rfl rfl ⟨rfl, yd_Vf_followsPositives⟩ ⟨Nat.le_of_ble_eq_true rfl, Nat.le_of_ble_eq_true rfl⟩) (kp_V (q0 := 0) (ci := 8) hP hD hK hN [0, 1, 2, 3, 4, 5, 6, 7, 8, 9, 10, 11] rfl rfl rfl rfl rfl) rfl rfl hl.1 rfl (lv_room (Nat.le_of_ble_eq_true rfl)) dc_Vf_isGood_27 ⟨Nat.le_of_ble_eq_true rfl, Nat.le_of_ble_eq_true rfl⟩) hP hD hS hA [0, 1, 2, 3, 4, 5, 6, 7, 8, 9, 10, 11] [] [0, 1, 2, 3, 4, 5, 6, 7, 8, 9, 10, 11] rfl rfl rfl (by decide) rfl rfl (fun H locs hP hD hS => ?_)
  have hfx := fp_nx fs lv cn (fun k => pt_hv ft fc fr j k) (pt_hc fc j - 0) 0 false 0 (nb_op (fs j)) (nb_op (nb_op (fs j))) rs im
  have hft := fp_t (lv := lv) (cn := cn) (hv := (fun k => pt_hv ft fc fr j k)) h16 (pt_hc fc j - 0) 0 false 0 (nb_op (fs j)) (nb_op (nb_op (fs j))) rs im hcap0.1
  generalize hZe : pt_fp fs lv cn (fun k => pt_hv ft fc fr j k) (pt_hc fc j - 0) 0 false 0 (nb_op (fs j)) (nb_op (nb_op (fs j))) rs im = ZZ at hP hD hfx hft ⊢
  refine kb_if_ne hx hb dc_Vf_isGood_30 rfl (fun hc30 => ?_) (fun hc30 => ?_)
  · refine lv_aload_n hx hb dc_Vf_isGood_35 rfl (lv_at hl 0 rfl) ?_
    refine va_get (ci := 8) (v := .int (kb_i ZZ.2.2.1)) (C := rn_Vf) (T := fd_Vf) (N := 7) hx hb hts in_Vf hown hK hP 0 rfl rfl 6 (by decide) (hts _ wd_683) (fun _ h9 => h9) rfl dc_Vf_isGood_36 ?_
    refine kb_if_ne hx hb dc_Vf_isGood_39 rfl (fun hc39 => ?_) (fun hc39 => ?_)
    · have hG : pt_good fs lv cn (fz j) pb (fs j) (fun k => pt_hv ft fc fr j k) (pt_hc fc j) rs im = (decide (ZZ.2.1 = pt_hc fc j), ZZ.2) := by
        rw [pt_good, hZe]; dsimp only; rw [if_neg (by rw [hc30]; decide), if_pos hc39]
      refine lv_aload_n hx hb dc_Vf_isGood_64 rfl (lv_at hl 0 rfl) ?_
      refine va_get (ci := 8) (v := .int (nI ZZ.2.1)) (C := rn_Vf) (T := fd_Vf) (N := 7) hx hb hts in_Vf hown hK hP 0 rfl rfl 5 (by decide) (hts _ wd_682) (fun _ h9 => h9) rfl dc_Vf_isGood_65 ?_
      refine lv_aload_n hx hb dc_Vf_isGood_68 rfl (lv_at hl 0 rfl) ?_
      refine va_get (ci := 8) (v := .ref xt) (C := rn_Vf) (T := fd_Vf) (N := 7) hx hb hts in_Vf hown hK hP 0 rfl rfl 2 (by decide) (hts _ wd_679) (fun _ h9 => h9) rfl dc_Vf_isGood_69 ?_
      refine lv_iload_n hx hb dc_Vf_isGood_72 rfl (lv_at hl 1 rfl) ?_
      refine kr_call1 (va_runV (As := [.int (nI j)]) (rest := [.int (nI ZZ.2.1)]) ⟨hx, hb, hml, hown, hts⟩ (ct_Tr_countOf l D cI cZ _ xt ta tb td g mk ckd ft fc fr j (by omega)) (cwV 1 hts (kx_gV wd_717 wd_268 wd_269 wd_7 wd_270) rfl rfl rfl ⟨rfl, yd_Tr_countOf⟩ ⟨Nat.le_of_ble_eq_true rfl, Nat.le_of_ble_eq_true rfl⟩) (kp_V (q0 := 8) (ci := 5) hP hD hK hN [8, 9, 10, 11] rfl rfl rfl rfl rfl) rfl rfl hl.1 rfl (lv_room (Nat.le_of_ble_eq_true rfl)) dc_Vf_isGood_73 ⟨Nat.le_of_ble_eq_true rfl, Nat.le_of_ble_eq_true rfl⟩) ?_
      refine kn_icmp_ne hx hb (by omega) (by omega) dc_Vf_isGood_76 rfl (fun hc76 => ?_) (fun hc76 => ?_)
      · refine lv_iconst (v := nI 0) hx hb dc_Vf_isGood_83 (by decide +kernel) ?_
        refine kn_top (y := kb_i false) (by decide +kernel) ?_
        exact kw_zret hx hb hr hlocks hP hD hS dc_Vf_isGood_84 (by rw [hG]; exact (decide_eq_false hc76).symm) (by rw [hG])
      · refine lv_iconst (v := nI 1) hx hb dc_Vf_isGood_79 (by decide +kernel) ?_
        refine lv_goto hx hb dc_Vf_isGood_80 rfl ?_
        refine kn_top (y := kb_i true) (by decide +kernel) ?_
        exact kw_zret hx hb hr hlocks hP hD hS dc_Vf_isGood_84 (by rw [hG]; exact (decide_eq_true hc76).symm) (by rw [hG])
    · refine lv_aload_n hx hb dc_Vf_isGood_42 rfl (lv_at hl 0 rfl) ?_
      refine va_get (ci := 8) (v := .ref xc) (C := rn_Vf) (T := fd_Vf) (N := 7) hx hb hts in_Vf hown hK hP 0 rfl rfl 0 (by decide) (hts _ wd_677) (fun _ h9 => h9) rfl dc_Vf_isGood_43 ?_
      refine va_getN (ci := 2) (v := .ref ca) (C := rn_Cl) (T := fd_Cl) (N := 4) hx hb hts in_Cl hown hK hP 1 rfl rfl 0 (by decide) (nf_64 hN) (fun _ h9 => h9) rfl dc_Vf_isGood_46 ?_
      refine lv_iload_n hx hb dc_Vf_isGood_49 rfl (lv_at hl 1 rfl) ?_
      refine ka_nald (t := fz) hx hb hK hP 2 0 rfl rfl (j := j) (by omega) (by omega) dc_Vf_isGood_50 ?_
      refine kn_if_eq hx hb (Nat.lt_of_le_of_lt (hz j hj1 hj2) (by decide)) dc_Vf_isGood_51 rfl (fun hc51 => ?_) (fun hc51 => ?_)
      · have hG : pt_good fs lv cn (fz j) pb (fs j) (fun k => pt_hv ft fc fr j k) (pt_hc fc j) rs im = (false, ZZ.2) := by
          rw [pt_good, hZe]; dsimp only; rw [if_neg (by rw [hc30]; decide), if_neg (by rw [hc39]; decide), if_pos hc51]
        refine lv_iconst (v := nI 0) hx hb dc_Vf_isGood_62 (by decide +kernel) ?_
        refine kn_top (y := kb_i false) (by decide +kernel) ?_
        exact kw_zret hx hb hr hlocks hP hD hS dc_Vf_isGood_63 (by rw [hG]) (by rw [hG])
      · refine lv_aload_n hx hb dc_Vf_isGood_54 rfl (lv_at hl 0 rfl) ?_
        refine lv_iload_n hx hb dc_Vf_isGood_55 rfl (lv_at hl 1 rfl) ?_
        refine kw_call1 (wr := []) (ws' := [vf_c o xc xs xt xa lv ((pt_vp fs lv cn (2 ^ pb) ZZ.2.2.2.2.1 (fun k => pt_hv ft fc fr j k) (pt_hc fc j) cn 1 ZZ.2.1 ZZ.2.2.1 ZZ.2.2.2.1 ZZ.2.2.2.2.1 ZZ.2.2.2.2.2.1 ZZ.2.2.2.2.2.2.1 ZZ.2.2.2.2.2.2.2).2.1) ((pt_vp fs lv cn (2 ^ pb) ZZ.2.2.2.2.1 (fun k => pt_hv ft fc fr j k) (pt_hc fc j) cn 1 ZZ.2.1 ZZ.2.2.1 ZZ.2.2.2.1 ZZ.2.2.2.2.1 ZZ.2.2.2.2.2.1 ZZ.2.2.2.2.2.2.1 ZZ.2.2.2.2.2.2.2).2.2.1), cl_c xc ca cb cd cn, ar_n cI ca 33 fz, ar_n cI cb 33 fs, ar_i cI cd (33 * 8) fl, as_c xa aa ab ((pt_vp fs lv cn (2 ^ pb) ZZ.2.2.2.2.1 (fun k => pt_hv ft fc fr j k) (pt_hc fc j) cn 1 ZZ.2.1 ZZ.2.2.1 ZZ.2.2.2.1 ZZ.2.2.2.2.1 ZZ.2.2.2.2.2.1 ZZ.2.2.2.2.2.2.1 ZZ.2.2.2.2.2.2.2).2.2.2.1) ((pt_vp fs lv cn (2 ^ pb) ZZ.2.2.2.2.1 (fun k => pt_hv ft fc fr j k) (pt_hc fc j) cn 1 ZZ.2.1 ZZ.2.2.1 ZZ.2.2.2.1 ZZ.2.2.2.2.1 ZZ.2.2.2.2.2.1 ZZ.2.2.2.2.2.2.1 ZZ.2.2.2.2.2.2.2).2.2.2.2.1) ((pt_vp fs lv cn (2 ^ pb) ZZ.2.2.2.2.1 (fun k => pt_hv ft fc fr j k) (pt_hc fc j) cn 1 ZZ.2.1 ZZ.2.2.1 ZZ.2.2.2.1 ZZ.2.2.2.2.1 ZZ.2.2.2.2.2.1 ZZ.2.2.2.2.2.2.1 ZZ.2.2.2.2.2.2.2).2.2.2.2.2.1), ar_n cI aa 8 ((pt_vp fs lv cn (2 ^ pb) ZZ.2.2.2.2.1 (fun k => pt_hv ft fc fr j k) (pt_hc fc j) cn 1 ZZ.2.1 ZZ.2.2.1 ZZ.2.2.2.1 ZZ.2.2.2.2.1 ZZ.2.2.2.2.2.1 ZZ.2.2.2.2.2.2.1 ZZ.2.2.2.2.2.2.2).2.2.2.2.2.2.1), ar_n cI ab 8 ((pt_vp fs lv cn (2 ^ pb) ZZ.2.2.2.2.1 (fun k => pt_hv ft fc fr j k) (pt_hc fc j) cn 1 ZZ.2.1 ZZ.2.2.1 ZZ.2.2.2.1 ZZ.2.2.2.2.1 ZZ.2.2.2.2.2.1 ZZ.2.2.2.2.2.2.1 ZZ.2.2.2.2.2.2.2).2.2.2.2.2.2.2), tr_c xt ta tb td g mk ckd, ar_n cI ta 33 ft, ar_n cI tb 33 fc, ar_i cI td 2048 fr]) (va_runV (As := [.int (nI j)]) (rest := []) ⟨hx, hb, hml, hown, hts⟩ (ct_Vf_followsPartners l D cI cZ _ o xc xs xt xa lv ZZ.2.1 ZZ.2.2.1 ca cb cd cn fz fs fl aa ab ZZ.2.2.2.1 ZZ.2.2.2.2.1 ZZ.2.2.2.2.2.1 ZZ.2.2.2.2.2.2.1 ZZ.2.2.2.2.2.2.2 ta tb td g mk ckd ft fc fr j qb pb (hcn) (h16) (hlv) (hb0) (hz) (hj1) (hj2) (hft) (by omega) (by omega) ((hlit (by omega)).1) ((hlit (by omega)).2.1) ((hlit (by omega)).2.2)) (cwV 1 hts (kx_gV wd_722 wd_724 (kx_sel (q := (yn_Vf_followsPartners, 7)) (List.mem_append_left _ (List.mem_of_getElem? (i := 10) rfl))) wd_22 wd_725) rfl rfl rfl ⟨rfl, yd_Vf_followsPartners⟩ ⟨Nat.le_of_ble_eq_true rfl, Nat.le_of_ble_eq_true rfl⟩) (kp_V (q0 := 0) (ci := 8) hP hD hK hN [0, 1, 2, 3, 4, 5, 6, 7, 8, 9, 10, 11] rfl rfl rfl rfl rfl) rfl rfl hl.1 rfl (lv_room (Nat.le_of_ble_eq_true rfl)) dc_Vf_isGood_56 ⟨Nat.le_of_ble_eq_true rfl, Nat.le_of_ble_eq_true rfl⟩) hP hD hS hA [0, 1, 2, 3, 4, 5, 6, 7, 8, 9, 10, 11] [] [0, 1, 2, 3, 4, 5, 6, 7, 8, 9, 10, 11] rfl rfl rfl (by decide) rfl rfl (fun H locs hP hD hS => ?_)
        have hvx := vp_nx fs lv cn (2 ^ pb) ZZ.2.2.2.2.1 ft fc fr j hcn cn 1 ZZ.2.1 ZZ.2.2.1 ZZ.2.2.2.1 ZZ.2.2.2.2.1 ZZ.2.2.2.2.2.1 ZZ.2.2.2.2.2.2.1 ZZ.2.2.2.2.2.2.2 (by omega) (by omega) (by omega)
        generalize hYe : pt_vp fs lv cn (2 ^ pb) ZZ.2.2.2.2.1 (fun k => pt_hv ft fc fr j k) (pt_hc fc j) cn 1 ZZ.2.1 ZZ.2.2.1 ZZ.2.2.2.1 ZZ.2.2.2.2.1 ZZ.2.2.2.2.2.1 ZZ.2.2.2.2.2.2.1 ZZ.2.2.2.2.2.2.2 = YY at hP hD hvx ⊢
        refine kb_if_ne hx hb dc_Vf_isGood_59 rfl (fun hc59 => ?_) (fun hc59 => ?_)
        · have hG : pt_good fs lv cn (fz j) pb (fs j) (fun k => pt_hv ft fc fr j k) (pt_hc fc j) rs im = (decide (YY.2.1 = pt_hc fc j), YY.2) := by
            rw [pt_good, hZe]; dsimp only; rw [if_neg (by rw [hc30]; decide), if_neg (by rw [hc39]; decide), if_neg hc51, hYe, if_neg (by rw [hc59]; decide)]
          refine lv_aload_n hx hb dc_Vf_isGood_64 rfl (lv_at hl 0 rfl) ?_
          refine va_get (ci := 8) (v := .int (nI YY.2.1)) (C := rn_Vf) (T := fd_Vf) (N := 7) hx hb hts in_Vf hown hK hP 0 rfl rfl 5 (by decide) (hts _ wd_682) (fun _ h9 => h9) rfl dc_Vf_isGood_65 ?_
          refine lv_aload_n hx hb dc_Vf_isGood_68 rfl (lv_at hl 0 rfl) ?_
          refine va_get (ci := 8) (v := .ref xt) (C := rn_Vf) (T := fd_Vf) (N := 7) hx hb hts in_Vf hown hK hP 0 rfl rfl 2 (by decide) (hts _ wd_679) (fun _ h9 => h9) rfl dc_Vf_isGood_69 ?_
          refine lv_iload_n hx hb dc_Vf_isGood_72 rfl (lv_at hl 1 rfl) ?_
          refine kr_call1 (va_runV (As := [.int (nI j)]) (rest := [.int (nI YY.2.1)]) ⟨hx, hb, hml, hown, hts⟩ (ct_Tr_countOf l D cI cZ _ xt ta tb td g mk ckd ft fc fr j (by omega)) (cwV 1 hts (kx_gV wd_717 wd_268 wd_269 wd_7 wd_270) rfl rfl rfl ⟨rfl, yd_Tr_countOf⟩ ⟨Nat.le_of_ble_eq_true rfl, Nat.le_of_ble_eq_true rfl⟩) (kp_V (q0 := 8) (ci := 5) hP hD hK hN [8, 9, 10, 11] rfl rfl rfl rfl rfl) rfl rfl hl.1 rfl (lv_room (Nat.le_of_ble_eq_true rfl)) dc_Vf_isGood_73 ⟨Nat.le_of_ble_eq_true rfl, Nat.le_of_ble_eq_true rfl⟩) ?_
          refine kn_icmp_ne hx hb (by omega) (by omega) dc_Vf_isGood_76 rfl (fun hc76 => ?_) (fun hc76 => ?_)
          · refine lv_iconst (v := nI 0) hx hb dc_Vf_isGood_83 (by decide +kernel) ?_
            refine kn_top (y := kb_i false) (by decide +kernel) ?_
            exact kw_zret hx hb hr hlocks hP hD hS dc_Vf_isGood_84 (by rw [hG]; exact (decide_eq_false hc76).symm) (by rw [hG])
          · refine lv_iconst (v := nI 1) hx hb dc_Vf_isGood_79 (by decide +kernel) ?_
            refine lv_goto hx hb dc_Vf_isGood_80 rfl ?_
            refine kn_top (y := kb_i true) (by decide +kernel) ?_
            exact kw_zret hx hb hr hlocks hP hD hS dc_Vf_isGood_84 (by rw [hG]; exact (decide_eq_true hc76).symm) (by rw [hG])
        · have hG : pt_good fs lv cn (fz j) pb (fs j) (fun k => pt_hv ft fc fr j k) (pt_hc fc j) rs im = (false, YY.2) := by
            rw [pt_good, hZe]; dsimp only; rw [if_neg (by rw [hc30]; decide), if_neg (by rw [hc39]; decide), if_neg hc51, hYe, if_pos hc59]
          refine lv_iconst (v := nI 0) hx hb dc_Vf_isGood_62 (by decide +kernel) ?_
          refine kn_top (y := kb_i false) (by decide +kernel) ?_
          exact kw_zret hx hb hr hlocks hP hD hS dc_Vf_isGood_63 (by rw [hG]) (by rw [hG])
  · have hG : pt_good fs lv cn (fz j) pb (fs j) (fun k => pt_hv ft fc fr j k) (pt_hc fc j) rs im = (false, ZZ.2) := by
      rw [pt_good, hZe]; dsimp only; rw [if_pos hc30]
    refine lv_iconst (v := nI 0) hx hb dc_Vf_isGood_33 (by decide +kernel) ?_
    refine kn_top (y := kb_i false) (by decide +kernel) ?_
    exact kw_zret hx hb hr hlocks hP hD hS dc_Vf_isGood_34 (by rw [hG]) (by rw [hG])

set_option maxHeartbeats 4000000 in
set_option maxRecDepth 100000 in
theorem ct_Vf_firstBad (l : Launch) (D : va_G) (cI cZ : ClassId) (sz : Nat) (o : Nat) (xc : Nat) (xs : Nat) (xt : Nat) (xa : Nat) (lv : Nat) (nx : Nat) (cf : Bool) (ca : Nat) (cb : Nat) (cd : Nat) (cn : Nat) (fz : Nat → Nat) (fs : Nat → Nat) (fl : Nat → Int32) (aa : Nat) (ab : Nat) (n : Nat) (t : Nat) (f : Nat) (rs : Nat → Nat) (im : Nat → Nat) (ta : Nat) (tb : Nat) (td : Nat) (g : Nat) (mk : Nat) (ckd : Bool) (ft : Nat → Nat) (fc : Nat → Nat) (fr : Nat → Int32) (sa : Nat) (sb : Nat) (sn : Nat) (sop : Bool) (dl : Nat → Bool) (nu : Nat → Nat) (b : Nat) (qb : Nat → Nat) (pb : Nat → Nat) (hcn : cn ≤ 32) (h16 : ∀ j, fs j < 65536) (hb0 : ∀ j, 1 ≤ j → j ≤ 32 → ft j + fc j ≤ 2048) (hz : ∀ i, 1 ≤ i → i ≤ cn → fz i ≤ 8) (hsn : sn ≤ 16) (hnu : ∀ i, 1 ≤ i → i ≤ sn → nu i ≤ cn) (hadd : ∀ i, 1 ≤ i → i ≤ sn → dl i = false → 1 ≤ nu i) (hb16 : b ≤ 16) (hm62 : mk < 2 ^ 62) (hlit : ∀ j, 1 ≤ j → j ≤ cn → 1 ≤ fz j → qb j < 16 ∧ fl (j * 8) = pt_lit (qb j) ∧ (qb j + 8) % 16 = pb j) : Met l yn_Vf_firstBad (Cond.code yn_Vf_firstBad bc_Vf_firstBad 4 (some .int) :: kx_all) ({ frames := 5, cells := 0, slots := 0, locals := 111 } : Room) (kp [.ref o, .int (nI b)] D cI cZ [vf_c o xc xs xt xa lv nx cf, cl_c xc ca cb cd cn, ar_n cI ca 33 fz, ar_n cI cb 33 fs, ar_i cI cd (33 * 8) fl, as_c xa aa ab n t f, ar_n cI aa 8 rs, ar_n cI ab 8 im, tr_c xt ta tb td g mk ckd, ar_n cI ta 33 ft, ar_n cI tb 33 fc, ar_i cI td 2048 fr, sp_c xs sa sb sn sop, ar_b cZ sa 17 dl, ar_n cI sb 17 nu] sz) (kw_q (some (.int (nI ((pt_fb fs fz pb cn dl nu mk ft fc fr sn 1 (2 ^ (b + 1) - 2) nx cf n t f rs im).1)))) D kc_l [vf_c o xc xs xt xa ((pt_fb fs fz pb cn dl nu mk ft fc fr sn 1 (2 ^ (b + 1) - 2) nx cf n t f rs im).2.1) ((pt_fb fs fz pb cn dl nu mk ft fc fr sn 1 (2 ^ (b + 1) - 2) nx cf n t f rs im).2.2.1) ((pt_fb fs fz pb cn dl nu mk ft fc fr sn 1 (2 ^ (b + 1) - 2) nx cf n t f rs im).2.2.2.1), cl_c xc ca cb cd cn, ar_n cI ca 33 fz, ar_n cI cb 33 fs, ar_i cI cd (33 * 8) fl, as_c xa aa ab ((pt_fb fs fz pb cn dl nu mk ft fc fr sn 1 (2 ^ (b + 1) - 2) nx cf n t f rs im).2.2.2.2.1) ((pt_fb fs fz pb cn dl nu mk ft fc fr sn 1 (2 ^ (b + 1) - 2) nx cf n t f rs im).2.2.2.2.2.1) ((pt_fb fs fz pb cn dl nu mk ft fc fr sn 1 (2 ^ (b + 1) - 2) nx cf n t f rs im).2.2.2.2.2.2.1), ar_n cI aa 8 ((pt_fb fs fz pb cn dl nu mk ft fc fr sn 1 (2 ^ (b + 1) - 2) nx cf n t f rs im).2.2.2.2.2.2.2.1), ar_n cI ab 8 ((pt_fb fs fz pb cn dl nu mk ft fc fr sn 1 (2 ^ (b + 1) - 2) nx cf n t f rs im).2.2.2.2.2.2.2.2), tr_c xt ta tb td g mk ckd, ar_n cI ta 33 ft, ar_n cI tb 33 fc, ar_i cI td 2048 fr, sp_c xs sa sb sn sop, ar_b cZ sa 17 dl, ar_n cI sb 17 nu] (va_A [vf_c o xc xs xt xa lv nx cf, cl_c xc ca cb cd cn, ar_n cI ca 33 fz, ar_n cI cb 33 fs, ar_i cI cd (33 * 8) fl, as_c xa aa ab n t f, ar_n cI aa 8 rs, ar_n cI ab 8 im, tr_c xt ta tb td g mk ckd, ar_n cI ta 33 ft, ar_n cI tb 33 fc, ar_i cI td 2048 fr, sp_c xs sa sb sn sop, ar_b cZ sa 17 dl, ar_n cI sb 17 nu] sz)) 0 0 (va_A [vf_c o xc xs xt xa lv nx cf, cl_c xc ca cb cd cn, ar_n cI ca 33 fz, ar_n cI cb 33 fs, ar_i cI cd (33 * 8) fl, as_c xa aa ab n t f, ar_n cI aa 8 rs, ar_n cI ab 8 im, tr_c xt ta tb td g mk ckd, ar_n cI ta 33 ft, ar_n cI tb 33 fc, ar_i cI td 2048 fr, sp_c xs sa sb sn sop, ar_b cZ sa 17 dl, ar_n cI sb 17 nu] sz) := by
  refine kx_metW (by decide) (Nat.le_of_ble_eq_true rfl) ?_
  intro p e s m below meth c ls A hx hb hr hml hts hown hlocks hin hA hP hK hD hN hl hS
  have hown : s.vm.findClass rn_Vf = some m.cls := hown
  have hl : lv_has ls 4 [(0, .ref o), (1, .int (nI b))] := hl
  refine lv_aload_n hx hb dc_Vf_firstBad_0 rfl (lv_at hl 0 rfl) ?_
  refine lv_iload_n hx hb dc_Vf_firstBad_1 rfl (lv_at hl 1 rfl) ?_
  refine kr_call1 (va_runSN (As := [.int (nI b)]) (rest := [.ref o]) ⟨hx, hb, hml, hown, hts⟩ (ct_Pt_firstOnes l D cI cZ _ b (by omega)) ⟨va_cnB 1 hts (kx_gi wd_550) rfl rfl rfl (nw_703 hN) (hts _ wd_1) yd_Pt_firstOnes ⟨Nat.le_of_ble_eq_true rfl, Nat.le_of_ble_eq_true rfl⟩, hts _ wd_549, trivial⟩ (kp_S hP hD hK hN [] rfl rfl) rfl rfl hl.1 rfl (lv_room (Nat.le_of_ble_eq_true rfl)) dc_Vf_firstBad_2 ⟨Nat.le_of_ble_eq_true rfl, Nat.le_of_ble_eq_true rfl⟩) ?_
  refine va_put (ci := 8) (v := .long (lN (2 ^ (b + 1) - 2))) (ty := .long) (C := rn_Vf) (T := fd_Vf) (N := 7) hx hb hts in_Vf ty_Vf tk_Vf nm_Vf hown hK hP hD hS 0 rfl rfl 4 (by decide) (hts _ wd_681) (fun _ h9 => h9) rfl (by decide +kernel) rfl rfl (Nat.le_of_ble_eq_true rfl) dc_Vf_firstBad_5 (fun H locs hP hD hS => ?_)
  have hP : va_P D kc_l [vf_c o xc xs xt xa (2 ^ (b + 1) - 2) nx cf, cl_c xc ca cb cd cn, ar_n cI ca 33 fz, ar_n cI cb 33 fs, ar_i cI cd (33 * 8) fl, as_c xa aa ab n t f, ar_n cI aa 8 rs, ar_n cI ab 8 im, tr_c xt ta tb td g mk ckd, ar_n cI ta 33 ft, ar_n cI tb 33 fc, ar_i cI td 2048 fr, sp_c xs sa sb sn sop, ar_b cZ sa 17 dl, ar_n cI sb 17 nu] H := hP
  have hD : va_D A [vf_c o xc xs xt xa (2 ^ (b + 1) - 2) nx cf, cl_c xc ca cb cd cn, ar_n cI ca 33 fz, ar_n cI cb 33 fs, ar_i cI cd (33 * 8) fl, as_c xa aa ab n t f, ar_n cI aa 8 rs, ar_n cI ab 8 im, tr_c xt ta tb td g mk ckd, ar_n cI ta 33 ft, ar_n cI tb 33 fc, ar_i cI td 2048 fr, sp_c xs sa sb sn sop, ar_b cZ sa 17 dl, ar_n cI sb 17 nu] := hD
  refine lv_iconst (v := nI 1) hx hb dc_Vf_firstBad_8 (by decide +kernel) ?_
  refine lv_istore_n (lv' := [(2, .int (nI 1)), (0, .ref o), (1, .int (nI b))]) hx hb dc_Vf_firstBad_9 rfl hl (by decide) rfl (fun ls hl => ?_)
  have lp_10 : ∀ (K : Nat) (i : Nat) (lk : Nat) (nk : Nat) (ck1 : Bool) (n1 : Nat) (t1 : Nat) (f1 : Nat) (rs1 : Nat → Nat) (im1 : Nat → Nat) (H : Heap) (locs : List Loc) (ls : Array Slot), sn + 1 - i < K → va_P D kc_l [vf_c o xc xs xt xa lk nk ck1, cl_c xc ca cb cd cn, ar_n cI ca 33 fz, ar_n cI cb 33 fs, ar_i cI cd (33 * 8) fl, as_c xa aa ab n1 t1 f1, ar_n cI aa 8 rs1, ar_n cI ab 8 im1, tr_c xt ta tb td g mk ckd, ar_n cI ta 33 ft, ar_n cI tb 33 fc, ar_i cI td 2048 fr, sp_c xs sa sb sn sop, ar_b cZ sa 17 dl, ar_n cI sb 17 nu] H → va_D A [vf_c o xc xs xt xa lk nk ck1, cl_c xc ca cb cd cn, ar_n cI ca 33 fz, ar_n cI cb 33 fs, ar_i cI cd (33 * 8) fl, as_c xa aa ab n1 t1 f1, ar_n cI aa 8 rs1, ar_n cI ab 8 im1, tr_c xt ta tb td g mk ckd, ar_n cI ta 33 ft, ar_n cI tb 33 fc, ar_i cI td 2048 fr, sp_c xs sa sb sn sop, ar_b cZ sa 17 dl, ar_n cI sb 17 nu] → va_S A s.heap H locs → lv_has ls 4 [(2, .int (nI i)), (0, .ref o), (1, .int (nI b))] → (pt_fb fs fz pb cn dl nu mk ft fc fr (sn + 1 - i) i lk nk ck1 n1 t1 f1 rs1 im1 = pt_fb fs fz pb cn dl nu mk ft fc fr sn 1 (2 ^ (b + 1) - 2) nx cf n t f rs im) → (1 ≤ i ∧ i ≤ sn + 1) → (lk < 2 ^ 62) → W p l e ({ frames := 5, cells := 0, slots := 0, locals := 111 } : Room) s m ([.ref o, .int (nI b)] : List Value).toArray below meth c H locs 0 0 (MQ below (kw_q (some (.int (nI ((pt_fb fs fz pb cn dl nu mk ft fc fr sn 1 (2 ^ (b + 1) - 2) nx cf n t f rs im).1)))) D kc_l [vf_c o xc xs xt xa ((pt_fb fs fz pb cn dl nu mk ft fc fr sn 1 (2 ^ (b + 1) - 2) nx cf n t f rs im).2.1) ((pt_fb fs fz pb cn dl nu mk ft fc fr sn 1 (2 ^ (b + 1) - 2) nx cf n t f rs im).2.2.1) ((pt_fb fs fz pb cn dl nu mk ft fc fr sn 1 (2 ^ (b + 1) - 2) nx cf n t f rs im).2.2.2.1), cl_c xc ca cb cd cn, ar_n cI ca 33 fz, ar_n cI cb 33 fs, ar_i cI cd (33 * 8) fl, as_c xa aa ab ((pt_fb fs fz pb cn dl nu mk ft fc fr sn 1 (2 ^ (b + 1) - 2) nx cf n t f rs im).2.2.2.2.1) ((pt_fb fs fz pb cn dl nu mk ft fc fr sn 1 (2 ^ (b + 1) - 2) nx cf n t f rs im).2.2.2.2.2.1) ((pt_fb fs fz pb cn dl nu mk ft fc fr sn 1 (2 ^ (b + 1) - 2) nx cf n t f rs im).2.2.2.2.2.2.1), ar_n cI aa 8 ((pt_fb fs fz pb cn dl nu mk ft fc fr sn 1 (2 ^ (b + 1) - 2) nx cf n t f rs im).2.2.2.2.2.2.2.1), ar_n cI ab 8 ((pt_fb fs fz pb cn dl nu mk ft fc fr sn 1 (2 ^ (b + 1) - 2) nx cf n t f rs im).2.2.2.2.2.2.2.2), tr_c xt ta tb td g mk ckd, ar_n cI ta 33 ft, ar_n cI tb 33 fc, ar_i cI td 2048 fr, sp_c xs sa sb sn sop, ar_b cZ sa 17 dl, ar_n cI sb 17 nu] A) ([.ref o, .int (nI b)] : List Value).toArray s 0 0 A) (F0 m 10 ls []) := by
    intro K
    induction K with
    | zero =>
      intro i lk nk ck1 n1 t1 f1 rs1 im1 H locs ls hk
      exact absurd hk (Nat.not_lt_zero _)
    | succ K ih_10 =>
      intro i lk nk ck1 n1 t1 f1 rs1 im1 H locs ls hk hP hD hS hl h1 h2 hl62
      refine lv_iload_n hx hb dc_Vf_firstBad_10 rfl (lv_at hl 0 rfl) ?_
      refine lv_aload_n hx hb dc_Vf_firstBad_11 rfl (lv_at hl 1 rfl) ?_
      refine va_get (ci := 8) (v := .ref xs) (C := rn_Vf) (T := fd_Vf) (N := 7) hx hb hts in_Vf hown hK hP 0 rfl rfl 1 (by decide) (hts _ wd_678) (fun _ h9 => h9) rfl dc_Vf_firstBad_12 ?_
      refine va_getN (ci := 4) (v := .int (nI sn)) (C := rn_Sp) (T := fd_Sp) (N := 4) hx hb hts in_Sp hown hK hP 12 rfl rfl 2 (by decide) (nf_115 hN) (fun _ h9 => h9) rfl dc_Vf_firstBad_15 ?_
      refine kn_icmp_gt hx hb (by omega) (by omega) dc_Vf_firstBad_18 rfl (fun hc18 => ?_) (fun hc18 => ?_)
      · refine lv_iconst (v := nI 0) hx hb dc_Vf_firstBad_106 (by decide +kernel) ?_
        exact kw_iret hx hb hr hlocks hP hD hS dc_Vf_firstBad_107 (by rw [← h1, show sn + 1 - i = 0 by omega, pt_fb]) (by rw [← h1, show sn + 1 - i = 0 by omega, pt_fb])
      · refine lv_aload_n hx hb dc_Vf_firstBad_21 rfl (lv_at hl 1 rfl) ?_
        refine va_get (ci := 8) (v := .ref xs) (C := rn_Vf) (T := fd_Vf) (N := 7) hx hb hts in_Vf hown hK hP 0 rfl rfl 1 (by decide) (hts _ wd_678) (fun _ h9 => h9) rfl dc_Vf_firstBad_22 ?_
        refine va_getN (ci := 4) (v := .ref sb) (C := rn_Sp) (T := fd_Sp) (N := 4) hx hb hts in_Sp hown hK hP 12 rfl rfl 1 (by decide) (nf_111 hN) (fun _ h9 => h9) rfl dc_Vf_firstBad_25 ?_
        refine lv_iload_n hx hb dc_Vf_firstBad_28 rfl (lv_at hl 0 rfl) ?_
        refine ka_nald (t := nu) hx hb hK hP 14 0 rfl rfl (j := i) (by omega) (by omega) dc_Vf_firstBad_29 ?_
        refine lv_istore_n (lv' := [(3, .int (nI (nu i))), (2, .int (nI i)), (0, .ref o), (1, .int (nI b))]) hx hb dc_Vf_firstBad_30 rfl hl (by decide) rfl (fun ls hl => ?_)
        refine lv_aload_n hx hb dc_Vf_firstBad_31 rfl (lv_at hl 2 rfl) ?_
        refine va_get (ci := 8) (v := .ref xs) (C := rn_Vf) (T := fd_Vf) (N := 7) hx hb hts in_Vf hown hK hP 0 rfl rfl 1 (by decide) (hts _ wd_678) (fun _ h9 => h9) rfl dc_Vf_firstBad_32 ?_
        refine va_getN (ci := 4) (v := .ref sa) (C := rn_Sp) (T := fd_Sp) (N := 4) hx hb hts in_Sp hown hK hP 12 rfl rfl 0 (by decide) (nf_107 hN) (fun _ h9 => h9) rfl dc_Vf_firstBad_35 ?_
        refine lv_iload_n hx hb dc_Vf_firstBad_38 rfl (lv_at hl 1 rfl) ?_
        refine ka_bald (t := dl) hx hb hK hP 13 1 rfl rfl (j := i) (by omega) (by omega) dc_Vf_firstBad_39 ?_
        refine kb_if_eq hx hb dc_Vf_firstBad_40 rfl (fun hc40 => ?_) (fun hc40 => ?_)
        · refine lv_aload_n hx hb dc_Vf_firstBad_63 rfl (lv_at hl 2 rfl) ?_
          refine va_get (ci := 8) (v := .ref xt) (C := rn_Vf) (T := fd_Vf) (N := 7) hx hb hts in_Vf hown hK hP 0 rfl rfl 2 (by decide) (hts _ wd_679) (fun _ h9 => h9) rfl dc_Vf_firstBad_64 ?_
          refine va_getN (ci := 5) (v := .long (lN mk)) (C := rn_Tr) (T := fd_Tr) (N := 6) hx hb hts in_Tr hown hK hP 8 rfl rfl 4 (by decide) (nf_141 hN) (fun _ h9 => h9) rfl dc_Vf_firstBad_67 ?_
          refine lv_iload_n hx hb dc_Vf_firstBad_70 rfl (lv_at hl 0 rfl) ?_
          refine kr_call1 (va_runSN (As := [.long (lN mk), .int (nI (nu i))]) (rest := []) ⟨hx, hb, hml, hown, hts⟩ (ct_Pt_contains l D cI cZ _ mk (nu i) (hm62) (by have := hnu i (by omega) (by omega); omega)) ⟨va_cnB 2 hts (kx_gi wd_262) rfl rfl rfl (nw_706 hN) (hts _ wd_1) yd_Pt_contains ⟨Nat.le_of_ble_eq_true rfl, Nat.le_of_ble_eq_true rfl⟩, hts _ wd_261, trivial⟩ (kp_S hP hD hK hN [] rfl rfl) rfl rfl hl.1 rfl (lv_room (Nat.le_of_ble_eq_true rfl)) dc_Vf_firstBad_71 ⟨Nat.le_of_ble_eq_true rfl, Nat.le_of_ble_eq_true rfl⟩) ?_
          refine kb_if_eq hx hb dc_Vf_firstBad_74 rfl (fun hc74 => ?_) (fun hc74 => ?_)
          · have hst : pt_fb fs fz pb cn dl nu mk ft fc fr (sn + 1 - i) i lk nk ck1 n1 t1 f1 rs1 im1 = pt_fb fs fz pb cn dl nu mk ft fc fr (sn + 1 - (i + 1)) (i + 1) lk nk ck1 n1 t1 f1 rs1 im1 := by
              rw [show sn + 1 - i = (sn + 1 - (i + 1)) + 1 by omega, pt_fb, if_neg (by rw [hc40]; decide), if_pos hc74]
            refine lv_iinc (k := 1) (v := nI (i + 1)) (lv' := [(2, .int (nI (i + 1))), (3, .int (nI (nu i))), (0, .ref o), (1, .int (nI b))]) hx hb dc_Vf_firstBad_100 hl rfl (nI_1 _) (by decide) rfl (fun ls hl => ?_)
            refine lv_goto hx hb dc_Vf_firstBad_103 rfl ?_
            have hl := lv_sub (l' := [(2, .int (nI (i + 1))), (0, .ref o), (1, .int (nI b))]) hl [0, 2, 3] rfl
            exact ih_10 _ _ _ _ _ _ _ _ _ _ _ _ (by omega) hP hD hS hl (by rw [← h1, hst]) (⟨by omega, by omega⟩) (hl62)
          · have hst : pt_fb fs fz pb cn dl nu mk ft fc fr (sn + 1 - i) i lk nk ck1 n1 t1 f1 rs1 im1 = (if (pt_good fs lk cn (fz (nu i)) (pb (nu i)) (fs (nu i)) (fun k => pt_hv ft fc fr (nu i) k) (pt_hc fc (nu i)) rs1 im1).1 = true then pt_fb fs fz pb cn dl nu mk ft fc fr (sn + 1 - (i + 1)) (i + 1) (lk ||| 2 ^ nu i) (pt_good fs lk cn (fz (nu i)) (pb (nu i)) (fs (nu i)) (fun k => pt_hv ft fc fr (nu i) k) (pt_hc fc (nu i)) rs1 im1).2.1 (pt_good fs lk cn (fz (nu i)) (pb (nu i)) (fs (nu i)) (fun k => pt_hv ft fc fr (nu i) k) (pt_hc fc (nu i)) rs1 im1).2.2.1 (pt_good fs lk cn (fz (nu i)) (pb (nu i)) (fs (nu i)) (fun k => pt_hv ft fc fr (nu i) k) (pt_hc fc (nu i)) rs1 im1).2.2.2.1 (pt_good fs lk cn (fz (nu i)) (pb (nu i)) (fs (nu i)) (fun k => pt_hv ft fc fr (nu i) k) (pt_hc fc (nu i)) rs1 im1).2.2.2.2.1 (pt_good fs lk cn (fz (nu i)) (pb (nu i)) (fs (nu i)) (fun k => pt_hv ft fc fr (nu i) k) (pt_hc fc (nu i)) rs1 im1).2.2.2.2.2.1 (pt_good fs lk cn (fz (nu i)) (pb (nu i)) (fs (nu i)) (fun k => pt_hv ft fc fr (nu i) k) (pt_hc fc (nu i)) rs1 im1).2.2.2.2.2.2.1 (pt_good fs lk cn (fz (nu i)) (pb (nu i)) (fs (nu i)) (fun k => pt_hv ft fc fr (nu i) k) (pt_hc fc (nu i)) rs1 im1).2.2.2.2.2.2.2 else (nu i, lk, (pt_good fs lk cn (fz (nu i)) (pb (nu i)) (fs (nu i)) (fun k => pt_hv ft fc fr (nu i) k) (pt_hc fc (nu i)) rs1 im1).2)) := by
              rw [show sn + 1 - i = (sn + 1 - (i + 1)) + 1 by omega, pt_fb, if_neg (by rw [hc40]; decide), if_neg (by rw [hc74]; decide)]
            refine lv_aload_n hx hb dc_Vf_firstBad_77 rfl (lv_at hl 2 rfl) ?_
            refine lv_iload_n hx hb dc_Vf_firstBad_78 rfl (lv_at hl 0 rfl) ?_
            refine kw_call1 (wr := [sp_c xs sa sb sn sop, ar_b cZ sa 17 dl, ar_n cI sb 17 nu]) (ws' := [vf_c o xc xs xt xa lk ((pt_good fs lk cn (fz (nu i)) (pb (nu i)) (fs (nu i)) (fun k => pt_hv ft fc fr (nu i) k) (pt_hc fc (nu i)) rs1 im1).2.1) ((pt_good fs lk cn (fz (nu i)) (pb (nu i)) (fs (nu i)) (fun k => pt_hv ft fc fr (nu i) k) (pt_hc fc (nu i)) rs1 im1).2.2.1), cl_c xc ca cb cd cn, ar_n cI ca 33 fz, ar_n cI cb 33 fs, ar_i cI cd (33 * 8) fl, as_c xa aa ab ((pt_good fs lk cn (fz (nu i)) (pb (nu i)) (fs (nu i)) (fun k => pt_hv ft fc fr (nu i) k) (pt_hc fc (nu i)) rs1 im1).2.2.2.1) ((pt_good fs lk cn (fz (nu i)) (pb (nu i)) (fs (nu i)) (fun k => pt_hv ft fc fr (nu i) k) (pt_hc fc (nu i)) rs1 im1).2.2.2.2.1) ((pt_good fs lk cn (fz (nu i)) (pb (nu i)) (fs (nu i)) (fun k => pt_hv ft fc fr (nu i) k) (pt_hc fc (nu i)) rs1 im1).2.2.2.2.2.1), ar_n cI aa 8 ((pt_good fs lk cn (fz (nu i)) (pb (nu i)) (fs (nu i)) (fun k => pt_hv ft fc fr (nu i) k) (pt_hc fc (nu i)) rs1 im1).2.2.2.2.2.2.1), ar_n cI ab 8 ((pt_good fs lk cn (fz (nu i)) (pb (nu i)) (fs (nu i)) (fun k => pt_hv ft fc fr (nu i) k) (pt_hc fc (nu i)) rs1 im1).2.2.2.2.2.2.2), tr_c xt ta tb td g mk ckd, ar_n cI ta 33 ft, ar_n cI tb 33 fc, ar_i cI td 2048 fr, sp_c xs sa sb sn sop, ar_b cZ sa 17 dl, ar_n cI sb 17 nu]) (va_runV (As := [.int (nI (nu i))]) (rest := []) ⟨hx, hb, hml, hown, hts⟩ (ct_Vf_isGood l D cI cZ _ o xc xs xt xa lk nk ck1 ca cb cd cn fz fs fl aa ab n1 t1 f1 rs1 im1 ta tb td g mk ckd ft fc fr (nu i) (qb (nu i)) (pb (nu i)) (hcn) (h16) (hl62) (hb0) (hz) (hadd i (by omega) (by omega) hc40) (hnu i (by omega) (by omega)) (hlit (nu i) (hadd i (by omega) (by omega) hc40) (hnu i (by omega) (by omega)))) (cwV 1 hts (kx_gV wd_707 wd_709 (kx_sel (q := (yn_Vf_isGood, 7)) (List.mem_append_left _ (List.mem_of_getElem? (i := 8) rfl))) wd_22 wd_710) rfl rfl rfl ⟨rfl, yd_Vf_isGood⟩ ⟨Nat.le_of_ble_eq_true rfl, Nat.le_of_ble_eq_true rfl⟩) (kp_V (q0 := 0) (ci := 8) hP hD hK hN [0, 1, 2, 3, 4, 5, 6, 7, 8, 9, 10, 11] rfl rfl rfl rfl rfl) rfl rfl hl.1 rfl (lv_room (Nat.le_of_ble_eq_true rfl)) dc_Vf_firstBad_79 ⟨Nat.le_of_ble_eq_true rfl, Nat.le_of_ble_eq_true rfl⟩) hP hD hS hA [0, 1, 2, 3, 4, 5, 6, 7, 8, 9, 10, 11] [12, 13, 14] [3, 4, 5, 6, 7, 8, 9, 10, 11, 12, 13, 14, 0, 1, 2] rfl rfl rfl (by decide) rfl rfl (fun H locs hP hD hS => ?_)
            generalize hGe : pt_good fs lk cn (fz (nu i)) (pb (nu i)) (fs (nu i)) (fun k => pt_hv ft fc fr (nu i) k) (pt_hc fc (nu i)) rs1 im1 = GG at hP hD hst ⊢
            refine kb_if_ne hx hb dc_Vf_firstBad_82 rfl (fun hc82 => ?_) (fun hc82 => ?_)
            · refine lv_aload_n hx hb dc_Vf_firstBad_87 rfl (lv_at hl 2 rfl) ?_
              refine lv_dup hx hb dc_Vf_firstBad_88 rfl ?_
              refine va_get (ci := 8) (v := .long (lN lk)) (C := rn_Vf) (T := fd_Vf) (N := 7) hx hb hts in_Vf hown hK hP 0 rfl rfl 4 (by decide) (hts _ wd_681) (fun _ h9 => h9) rfl dc_Vf_firstBad_89 ?_
              refine lv_iload_n hx hb dc_Vf_firstBad_92 rfl (lv_at hl 0 rfl) ?_
              refine kr_call1 (va_runSN (As := [.int (nI (nu i))]) (rest := [.long (lN lk), .ref o]) ⟨hx, hb, hml, hown, hts⟩ (ct_Pt_one l D cI cZ _ (nu i) (by have := hnu i (by omega) (by omega); omega)) ⟨va_cnB 1 hts (kx_gi wd_559) rfl rfl rfl (nw_704 hN) (hts _ wd_1) yd_Pt_one ⟨Nat.le_of_ble_eq_true rfl, Nat.le_of_ble_eq_true rfl⟩, hts _ wd_558, trivial⟩ (kp_S hP hD hK hN [] rfl rfl) rfl rfl hl.1 rfl (lv_room (Nat.le_of_ble_eq_true rfl)) dc_Vf_firstBad_93 ⟨Nat.le_of_ble_eq_true rfl, Nat.le_of_ble_eq_true rfl⟩) ?_
              refine kl_lor hx hb dc_Vf_firstBad_96 ?_
              refine va_put (ci := 8) (v := .long (lN (lk ||| (2 ^ (nu i))))) (ty := .long) (C := rn_Vf) (T := fd_Vf) (N := 7) hx hb hts in_Vf ty_Vf tk_Vf nm_Vf hown hK hP hD hS 0 rfl rfl 4 (by decide) (hts _ wd_681) (fun _ h9 => h9) rfl (by decide +kernel) rfl rfl (Nat.le_of_ble_eq_true rfl) dc_Vf_firstBad_97 (fun H locs hP hD hS => ?_)
              have hP : va_P D kc_l [vf_c o xc xs xt xa (lk ||| (2 ^ (nu i))) GG.2.1 GG.2.2.1, cl_c xc ca cb cd cn, ar_n cI ca 33 fz, ar_n cI cb 33 fs, ar_i cI cd (33 * 8) fl, as_c xa aa ab GG.2.2.2.1 GG.2.2.2.2.1 GG.2.2.2.2.2.1, ar_n cI aa 8 GG.2.2.2.2.2.2.1, ar_n cI ab 8 GG.2.2.2.2.2.2.2, tr_c xt ta tb td g mk ckd, ar_n cI ta 33 ft, ar_n cI tb 33 fc, ar_i cI td 2048 fr, sp_c xs sa sb sn sop, ar_b cZ sa 17 dl, ar_n cI sb 17 nu] H := hP
              have hD : va_D A [vf_c o xc xs xt xa (lk ||| (2 ^ (nu i))) GG.2.1 GG.2.2.1, cl_c xc ca cb cd cn, ar_n cI ca 33 fz, ar_n cI cb 33 fs, ar_i cI cd (33 * 8) fl, as_c xa aa ab GG.2.2.2.1 GG.2.2.2.2.1 GG.2.2.2.2.2.1, ar_n cI aa 8 GG.2.2.2.2.2.2.1, ar_n cI ab 8 GG.2.2.2.2.2.2.2, tr_c xt ta tb td g mk ckd, ar_n cI ta 33 ft, ar_n cI tb 33 fc, ar_i cI td 2048 fr, sp_c xs sa sb sn sop, ar_b cZ sa 17 dl, ar_n cI sb 17 nu] := hD
              refine lv_iinc (k := 1) (v := nI (i + 1)) (lv' := [(2, .int (nI (i + 1))), (3, .int (nI (nu i))), (0, .ref o), (1, .int (nI b))]) hx hb dc_Vf_firstBad_100 hl rfl (nI_1 _) (by decide) rfl (fun ls hl => ?_)
              refine lv_goto hx hb dc_Vf_firstBad_103 rfl ?_
              have hl := lv_sub (l' := [(2, .int (nI (i + 1))), (0, .ref o), (1, .int (nI b))]) hl [0, 2, 3] rfl
              exact ih_10 _ _ _ _ _ _ _ _ _ _ _ _ (by omega) hP hD hS hl (by rw [← h1, hst, if_pos hc82]) (⟨by omega, by omega⟩) (Nat.or_lt_two_pow hl62 (Nat.pow_lt_pow_right (by decide) (by have := hnu i (by omega) (by omega); omega)))
            · refine lv_iload_n hx hb dc_Vf_firstBad_85 rfl (lv_at hl 0 rfl) ?_
              exact kw_iret hx hb hr hlocks hP hD hS dc_Vf_firstBad_86 (by rw [← h1, hst, if_neg (by rw [hc82]; decide)]) (by rw [← h1, hst, if_neg (by rw [hc82]; decide)])
        · have hst : pt_fb fs fz pb cn dl nu mk ft fc fr (sn + 1 - i) i lk nk ck1 n1 t1 f1 rs1 im1 = pt_fb fs fz pb cn dl nu mk ft fc fr (sn + 1 - (i + 1)) (i + 1) (nb_d lk (2 ^ nu i)) nk ck1 n1 t1 f1 rs1 im1 := by
            rw [show sn + 1 - i = (sn + 1 - (i + 1)) + 1 by omega, pt_fb, if_pos hc40]
          refine lv_aload_n hx hb dc_Vf_firstBad_43 rfl (lv_at hl 2 rfl) ?_
          refine lv_dup hx hb dc_Vf_firstBad_44 rfl ?_
          refine va_get (ci := 8) (v := .long (lN lk)) (C := rn_Vf) (T := fd_Vf) (N := 7) hx hb hts in_Vf hown hK hP 0 rfl rfl 4 (by decide) (hts _ wd_681) (fun _ h9 => h9) rfl dc_Vf_firstBad_45 ?_
          refine lv_iload_n hx hb dc_Vf_firstBad_48 rfl (lv_at hl 0 rfl) ?_
          refine kr_call1 (va_runSN (As := [.int (nI (nu i))]) (rest := [.long (lN lk), .ref o]) ⟨hx, hb, hml, hown, hts⟩ (ct_Pt_one l D cI cZ _ (nu i) (by have := hnu i (by omega) (by omega); omega)) ⟨va_cnB 1 hts (kx_gi wd_559) rfl rfl rfl (nw_704 hN) (hts _ wd_1) yd_Pt_one ⟨Nat.le_of_ble_eq_true rfl, Nat.le_of_ble_eq_true rfl⟩, hts _ wd_558, trivial⟩ (kp_S hP hD hK hN [] rfl rfl) rfl rfl hl.1 rfl (lv_room (Nat.le_of_ble_eq_true rfl)) dc_Vf_firstBad_49 ⟨Nat.le_of_ble_eq_true rfl, Nat.le_of_ble_eq_true rfl⟩) ?_
          refine kl_ldc2 (y := (-1)) hx hb hown (hts _ wd_705) dc_Vf_firstBad_52 (by decide +kernel) ?_
          refine lv_lxor hx hb dc_Vf_firstBad_55 ?_
          refine kl_lnot hx hb dc_Vf_firstBad_56 ?_
          refine va_put (ci := 8) (v := .long (lN (nb_d lk (2 ^ (nu i))))) (ty := .long) (C := rn_Vf) (T := fd_Vf) (N := 7) hx hb hts in_Vf ty_Vf tk_Vf nm_Vf hown hK hP hD hS 0 rfl rfl 4 (by decide) (hts _ wd_681) (fun _ h9 => h9) rfl (by decide +kernel) rfl rfl (Nat.le_of_ble_eq_true rfl) dc_Vf_firstBad_57 (fun H locs hP hD hS => ?_)
          have hP : va_P D kc_l [vf_c o xc xs xt xa (nb_d lk (2 ^ (nu i))) nk ck1, cl_c xc ca cb cd cn, ar_n cI ca 33 fz, ar_n cI cb 33 fs, ar_i cI cd (33 * 8) fl, as_c xa aa ab n1 t1 f1, ar_n cI aa 8 rs1, ar_n cI ab 8 im1, tr_c xt ta tb td g mk ckd, ar_n cI ta 33 ft, ar_n cI tb 33 fc, ar_i cI td 2048 fr, sp_c xs sa sb sn sop, ar_b cZ sa 17 dl, ar_n cI sb 17 nu] H := hP
          have hD : va_D A [vf_c o xc xs xt xa (nb_d lk (2 ^ (nu i))) nk ck1, cl_c xc ca cb cd cn, ar_n cI ca 33 fz, ar_n cI cb 33 fs, ar_i cI cd (33 * 8) fl, as_c xa aa ab n1 t1 f1, ar_n cI aa 8 rs1, ar_n cI ab 8 im1, tr_c xt ta tb td g mk ckd, ar_n cI ta 33 ft, ar_n cI tb 33 fc, ar_i cI td 2048 fr, sp_c xs sa sb sn sop, ar_b cZ sa 17 dl, ar_n cI sb 17 nu] := hD
          refine lv_goto hx hb dc_Vf_firstBad_60 rfl ?_
          refine lv_iinc (k := 1) (v := nI (i + 1)) (lv' := [(2, .int (nI (i + 1))), (3, .int (nI (nu i))), (0, .ref o), (1, .int (nI b))]) hx hb dc_Vf_firstBad_100 hl rfl (nI_1 _) (by decide) rfl (fun ls hl => ?_)
          refine lv_goto hx hb dc_Vf_firstBad_103 rfl ?_
          have hl := lv_sub (l' := [(2, .int (nI (i + 1))), (0, .ref o), (1, .int (nI b))]) hl [0, 2, 3] rfl
          exact ih_10 _ _ _ _ _ _ _ _ _ _ _ _ (by omega) hP hD hS hl (by rw [← h1, hst]) (⟨by omega, by omega⟩) (nb_d_lt hl62)
  exact lp_10 _ _ _ _ _ _ _ _ _ _ _ _ _ (Nat.lt_succ_self _) hP hD hS hl (rfl) (⟨by omega, by omega⟩) (Nat.lt_of_le_of_lt (Nat.sub_le _ _) (Nat.pow_lt_pow_right (by decide) (by omega)))

set_option maxHeartbeats 4000000 in
set_option maxRecDepth 100000 in
theorem ct_Vf_init (l : Launch) (D : va_G) (cI cZ : ClassId) (sz : Nat) (o : Nat) (xc : Nat) (xs : Nat) (xt : Nat) (xa : Nat)  : Met l yn_Vf_init (Cond.code yn_Vf_init bc_Vf_init 5 none :: kx_all) ({ frames := 1, cells := 0, slots := 0, locals := 12 } : Room) (kp [.ref o, .ref xc, .ref xs, .ref xt, .ref xa] D cI cZ [(o, .inr (8, [.null, .null, .null, .null, .long 0, .int 0, .int 0]))] sz) (kw_q none D kc_l [vf_c o xc xs xt xa 0 0 false] (va_A [(o, .inr (8, [.null, .null, .null, .null, .long 0, .int 0, .int 0]))] sz)) 0 0 (va_A [(o, .inr (8, [.null, .null, .null, .null, .long 0, .int 0, .int 0]))] sz) := by
  refine kx_metW (by decide) (Nat.le_of_ble_eq_true rfl) ?_
  intro p e s m below meth c ls A hx hb hr hml hts hown hlocks hin hA hP hK hD hN hl hS
  have hown : s.vm.findClass rn_Vf = some m.cls := hown
  have hl : lv_has ls 5 [(0, .ref o), (1, .ref xc), (2, .ref xs), (3, .ref xt), (4, .ref xa)] := hl
  refine lv_aload_n hx hb dc_Vf_init_0 rfl (lv_at hl 0 rfl) ?_
  refine W.objInit hx hb hown (hts _ wd_676) (hts _ wd_29) (hts _ wd_30) rfl (by rw [hml]; exact hl.1) rfl dc_Vf_init_1 (Nat.le_of_ble_eq_true rfl) (Nat.le_of_ble_eq_true rfl) ?_
  refine W.eq (g2 := F0 m 4 ls []) rfl ?_
  refine lv_aload_n hx hb dc_Vf_init_4 rfl (lv_at hl 0 rfl) ?_
  refine lv_aload_n hx hb dc_Vf_init_5 rfl (lv_at hl 1 rfl) ?_
  refine va_putF (ci := 8) (v := .ref xc) (ty := .object "ProofTrimmer$Clauses") (C := rn_Vf) (T := fd_Vf) (N := 7) hx hb hts in_Vf ty_Vf tk_Vf nm_Vf hown hK hP hD hS 0 rfl rfl 0 (by decide) (hts _ wd_677) (fun _ h9 => h9) rfl hin rfl (by decide +kernel) rfl rfl (Nat.le_of_ble_eq_true rfl) dc_Vf_init_6 (fun H locs hP hD hS => ?_)
  have hP : va_P D kc_l [(o, .inr (8, [.ref xc, .null, .null, .null, .long 0, .int 0, .int 0]))] H := hP
  have hD : va_D A [(o, .inr (8, [.ref xc, .null, .null, .null, .long 0, .int 0, .int 0]))] := hD
  refine lv_aload_n hx hb dc_Vf_init_9 rfl (lv_at hl 0 rfl) ?_
  refine lv_aload_n hx hb dc_Vf_init_10 rfl (lv_at hl 2 rfl) ?_
  refine va_putF (ci := 8) (v := .ref xs) (ty := .object "ProofTrimmer$Steps") (C := rn_Vf) (T := fd_Vf) (N := 7) hx hb hts in_Vf ty_Vf tk_Vf nm_Vf hown hK hP hD hS 0 rfl rfl 1 (by decide) (hts _ wd_678) (fun _ h9 => h9) rfl hin rfl (by decide +kernel) rfl rfl (Nat.le_of_ble_eq_true rfl) dc_Vf_init_11 (fun H locs hP hD hS => ?_)
  have hP : va_P D kc_l [(o, .inr (8, [.ref xc, .ref xs, .null, .null, .long 0, .int 0, .int 0]))] H := hP
  have hD : va_D A [(o, .inr (8, [.ref xc, .ref xs, .null, .null, .long 0, .int 0, .int 0]))] := hD
  refine lv_aload_n hx hb dc_Vf_init_14 rfl (lv_at hl 0 rfl) ?_
  refine lv_aload_n hx hb dc_Vf_init_15 rfl (lv_at hl 3 rfl) ?_
  refine va_putF (ci := 8) (v := .ref xt) (ty := .object "ProofTrimmer$Trace") (C := rn_Vf) (T := fd_Vf) (N := 7) hx hb hts in_Vf ty_Vf tk_Vf nm_Vf hown hK hP hD hS 0 rfl rfl 2 (by decide) (hts _ wd_679) (fun _ h9 => h9) rfl hin rfl (by decide +kernel) rfl rfl (Nat.le_of_ble_eq_true rfl) dc_Vf_init_16 (fun H locs hP hD hS => ?_)
  have hP : va_P D kc_l [(o, .inr (8, [.ref xc, .ref xs, .ref xt, .null, .long 0, .int 0, .int 0]))] H := hP
  have hD : va_D A [(o, .inr (8, [.ref xc, .ref xs, .ref xt, .null, .long 0, .int 0, .int 0]))] := hD
  refine lv_aload_n hx hb dc_Vf_init_19 rfl (lv_at hl 0 rfl) ?_
  refine lv_aload hx hb dc_Vf_init_20 (lv_at hl 4 rfl) ?_
  refine va_putF (ci := 8) (v := .ref xa) (ty := .object "ProofTrimmer$Assignment") (C := rn_Vf) (T := fd_Vf) (N := 7) hx hb hts in_Vf ty_Vf tk_Vf nm_Vf hown hK hP hD hS 0 rfl rfl 3 (by decide) (hts _ wd_680) (fun _ h9 => h9) rfl hin rfl (by decide +kernel) rfl rfl (Nat.le_of_ble_eq_true rfl) dc_Vf_init_22 (fun H locs hP hD hS => ?_)
  have hP : va_P D kc_l [(o, .inr (8, [.ref xc, .ref xs, .ref xt, .ref xa, .long 0, .int 0, .int 0]))] H := hP
  have hD : va_D A [(o, .inr (8, [.ref xc, .ref xs, .ref xt, .ref xa, .long 0, .int 0, .int 0]))] := hD
  exact kw_vret hx hb hr hlocks hP hD hS dc_Vf_init_25 (rfl)
