/-! the reference: checking -/
def pt_m0 (kb : Nat → Bool) (n k : Nat) : Nat → Bool := fun j => if 1 ≤ j ∧ j < k then decide (j = n) else kb j
theorem m0_1 {kb : Nat → Bool} {n : Nat} : pt_m0 kb n 1 = kb := by
  funext j
  unfold pt_m0
  rw [if_neg (by omega)]
theorem m0_s {kb : Nat → Bool} {n k : Nat} {x : Bool} (h1 : 1 ≤ k) (hx : x = decide (k = n)) : va_up (pt_m0 kb n k) k x = pt_m0 kb n (k + 1) := by
  funext j
  unfold va_up pt_m0
  by_cases h : j = k
  · subst h; rw [if_pos rfl, if_pos ⟨h1, by omega⟩, hx]
  · rw [if_neg h]
    by_cases h2 : 1 ≤ j ∧ j < k
    · rw [if_pos h2, if_pos ⟨h2.1, by omega⟩]
    · rw [if_neg h2, if_neg (by omega)]
def pt_z1 (f : Nat → Nat) (k : Nat) : Nat → Nat := fun j => if 1 ≤ j ∧ j < k then 0 else f j
theorem z1_1 {f : Nat → Nat} : pt_z1 f 1 = f := by
  funext j
  unfold pt_z1
  rw [if_neg (by omega)]
theorem z1_s {f : Nat → Nat} {k : Nat} (h1 : 1 ≤ k) : va_up (pt_z1 f k) k 0 = pt_z1 f (k + 1) := by
  funext j
  unfold va_up pt_z1
  by_cases h : j = k
  · subst h; rw [if_pos rfl, if_pos ⟨h1, by omega⟩]
  · rw [if_neg h]
    by_cases h2 : 1 ≤ j ∧ j < k
    · rw [if_pos h2, if_pos ⟨h2.1, by omega⟩]
    · rw [if_neg h2, if_neg (by omega)]
/-- going back, as the reference keeps it: the wrong step or 0, the marks, how many hints, the hints -/
def pm_gb (fs fz pb : Nat → Nat) (cn ba : Nat) (dl : Nat → Bool) (nu : Nat → Nat) : Nat → Nat → Nat → (Nat → Nat) → (Nat → Int32) → (Nat → Nat) → (Nat → Nat) → Nat × Nat × (Nat → Nat) × (Nat → Int32)
  | 0, _, ma, hc, hh, _, _ => (0, ma, hc, hh)
  | k + 1, lv, ma, hc, hh, rs, im =>
    if dl (k + 1) = true then pm_gb fs fz pb cn ba dl nu k (lv ||| 2 ^ nu (k + 1)) ma hc hh rs im
    else if ma.testBit (nu (k + 1)) = false then pm_gb fs fz pb cn ba dl nu k (nb_d lv (2 ^ nu (k + 1))) ma hc hh rs im
    else
      let Z := pt_right fs (nb_d lv (2 ^ nu (k + 1))) ma cn (fz (nu (k + 1))) (pb (nu (k + 1))) (fs (nu (k + 1))) rs im
      if Z.1 = true then pm_gb fs fz pb cn ba dl nu k (nb_d lv (2 ^ nu (k + 1))) Z.2.1 (va_up hc (nu (k + 1)) (hc (nu (k + 1)) + Z.2.2.1.length)) (pt_put hh (400 * (nu (k + 1) - ba - 1) + hc (nu (k + 1))) Z.2.2.1) Z.2.2.2.2.2.2.1 Z.2.2.2.2.2.2.2
      else (k + 1, Z.2.1, va_up hc (nu (k + 1)) (hc (nu (k + 1)) + Z.2.2.1.length), pt_put hh (400 * (nu (k + 1) - ba - 1) + hc (nu (k + 1))) Z.2.2.1)
theorem gbm_len {fs fz pb : Nat → Nat} {cn ba : Nat} {dl : Nat → Bool} {nu : Nat → Nat} : ∀ (k lv ma : Nat) (hc : Nat → Nat) (hh : Nat → Int32) (rs im : Nat → Nat) (j : Nat), hc j ≤ (pm_gb fs fz pb cn ba dl nu k lv ma hc hh rs im).2.2.1 j := by
  have up : ∀ (hc : Nat → Nat) (c d j : Nat), hc j ≤ va_up hc c (hc c + d) j := by
    intro hc c d j
    unfold va_up
    split
    · rename_i h; rw [h]; omega
    · exact Nat.le_refl _
  intro k
  induction k with
  | zero => intro lv ma hc hh rs im j; exact Nat.le_refl _
  | succ k ih =>
    intro lv ma hc hh rs im j
    rw [pm_gb]
    split
    · exact ih _ _ _ _ _ _ j
    · split
      · exact ih _ _ _ _ _ _ j
      · dsimp only
        split
        · exact Nat.le_trans (up _ _ _ _) (ih _ _ _ _ _ _ j)
        · exact up _ _ _ _
/-- how many of a set, k places from i on -/
def pt_ct (u : Nat) : Nat → Nat → Nat
  | 0, _ => 0
  | k + 1, i => (if u.testBit i = true then 1 else 0) + pt_ct u k (i + 1)
theorem ct_st {u n i : Nat} (h : i ≤ n) : pt_ct u (n + 1 - i) i = (if u.testBit i = true then 1 else 0) + pt_ct u (n + 1 - (i + 1)) (i + 1) := by
  rw [show n + 1 - i = (n + 1 - (i + 1)) + 1 by omega, pt_ct]
theorem fo_bit {b j : Nat} (h : 1 ≤ j) : (2 ^ (b + 1) - 2).testBit j = decide (j ≤ b) := by
  have h1 : 2 ^ (b + 1) - 2 = (2 ^ b - 1) * 2 := by rw [Nat.pow_succ]; omega
  obtain ⟨i, rfl⟩ : ∃ i, j = i + 1 := ⟨j - 1, by omega⟩
  rw [h1, Nat.testBit_succ, Nat.mul_div_cancel _ (by decide), Nat.testBit_two_pow_sub_one]
  exact decide_eq_decide.mpr (by omega)

theorem dc_Mo_check_0 : decode bc_Mo_check 0 = .ok (.aload_n 0, 1) := by decide +kernel
theorem dc_Mo_check_1 : decode bc_Mo_check 1 = .ok (.iconst 0, 1) := by decide +kernel
theorem dc_Mo_check_2 : decode bc_Mo_check 2 = .ok (.putfield 65, 3) := by decide +kernel
theorem dc_Mo_check_5 : decode bc_Mo_check 5 = .ok (.aload_n 0, 1) := by decide +kernel
theorem dc_Mo_check_6 : decode bc_Mo_check 6 = .ok (.getfield 137, 3) := by decide +kernel
theorem dc_Mo_check_9 : decode bc_Mo_check 9 = .ok (.ifCond .ne (9), 3) := by decide +kernel
theorem dc_Mo_check_12 : decode bc_Mo_check 12 = .ok (.aload_n 0, 1) := by decide +kernel
theorem dc_Mo_check_13 : decode bc_Mo_check 13 = .ok (.iconst 1, 1) := by decide +kernel
theorem dc_Mo_check_14 : decode bc_Mo_check 14 = .ok (.invokevirtual 131, 3) := by decide +kernel
theorem dc_Mo_check_17 : decode bc_Mo_check 17 = .ok (.ireturn, 1) := by decide +kernel
theorem dc_Mo_check_18 : decode bc_Mo_check 18 = .ok (.aload_n 0, 1) := by decide +kernel
theorem dc_Mo_check_19 : decode bc_Mo_check 19 = .ok (.iconst 0, 1) := by decide +kernel
theorem dc_Mo_check_20 : decode bc_Mo_check 20 = .ok (.putfield 140, 3) := by decide +kernel
theorem dc_Mo_check_23 : decode bc_Mo_check 23 = .ok (.aload_n 0, 1) := by decide +kernel
theorem dc_Mo_check_24 : decode bc_Mo_check 24 = .ok (.getfield 159, 3) := by decide +kernel
theorem dc_Mo_check_27 : decode bc_Mo_check 27 = .ok (.ifCond .ne (7), 3) := by decide +kernel
theorem dc_Mo_check_30 : decode bc_Mo_check 30 = .ok (.sipush (-1000), 3) := by decide +kernel
theorem dc_Mo_check_33 : decode bc_Mo_check 33 = .ok (.ireturn, 1) := by decide +kernel
theorem dc_Mo_check_34 : decode bc_Mo_check 34 = .ok (.aload_n 0, 1) := by decide +kernel
theorem dc_Mo_check_35 : decode bc_Mo_check 35 = .ok (.invokevirtual 162, 3) := by decide +kernel
theorem dc_Mo_check_38 : decode bc_Mo_check 38 = .ok (.iconst 1, 1) := by decide +kernel
theorem dc_Mo_check_39 : decode bc_Mo_check 39 = .ok (.istore_n 1, 1) := by decide +kernel
theorem dc_Mo_check_40 : decode bc_Mo_check 40 = .ok (.iload_n 1, 1) := by decide +kernel
theorem dc_Mo_check_41 : decode bc_Mo_check 41 = .ok (.bipush (33), 2) := by decide +kernel
theorem dc_Mo_check_43 : decode bc_Mo_check 43 = .ok (.if_icmp .ge (35), 3) := by decide +kernel
theorem dc_Mo_check_46 : decode bc_Mo_check 46 = .ok (.aload_n 0, 1) := by decide +kernel
theorem dc_Mo_check_47 : decode bc_Mo_check 47 = .ok (.getfield 35, 3) := by decide +kernel
theorem dc_Mo_check_50 : decode bc_Mo_check 50 = .ok (.iload_n 1, 1) := by decide +kernel
theorem dc_Mo_check_51 : decode bc_Mo_check 51 = .ok (.iload_n 1, 1) := by decide +kernel
theorem dc_Mo_check_52 : decode bc_Mo_check 52 = .ok (.aload_n 0, 1) := by decide +kernel
theorem dc_Mo_check_53 : decode bc_Mo_check 53 = .ok (.getfield 122, 3) := by decide +kernel
theorem dc_Mo_check_56 : decode bc_Mo_check 56 = .ok (.if_icmp .ne (7), 3) := by decide +kernel
theorem dc_Mo_check_59 : decode bc_Mo_check 59 = .ok (.iconst 1, 1) := by decide +kernel
theorem dc_Mo_check_60 : decode bc_Mo_check 60 = .ok (.goto (4), 3) := by decide +kernel
theorem dc_Mo_check_63 : decode bc_Mo_check 63 = .ok (.iconst 0, 1) := by decide +kernel
theorem dc_Mo_check_64 : decode bc_Mo_check 64 = .ok (.bastore, 1) := by decide +kernel
theorem dc_Mo_check_65 : decode bc_Mo_check 65 = .ok (.aload_n 0, 1) := by decide +kernel
theorem dc_Mo_check_66 : decode bc_Mo_check 66 = .ok (.getfield 44, 3) := by decide +kernel
theorem dc_Mo_check_69 : decode bc_Mo_check 69 = .ok (.iload_n 1, 1) := by decide +kernel
theorem dc_Mo_check_70 : decode bc_Mo_check 70 = .ok (.iconst 0, 1) := by decide +kernel
theorem dc_Mo_check_71 : decode bc_Mo_check 71 = .ok (.iastore, 1) := by decide +kernel
theorem dc_Mo_check_72 : decode bc_Mo_check 72 = .ok (.iinc 1 (1), 3) := by decide +kernel
theorem dc_Mo_check_75 : decode bc_Mo_check 75 = .ok (.goto (-35), 3) := by decide +kernel
theorem dc_Mo_check_78 : decode bc_Mo_check 78 = .ok (.iconst 1, 1) := by decide +kernel
theorem dc_Mo_check_79 : decode bc_Mo_check 79 = .ok (.istore_n 1, 1) := by decide +kernel
theorem dc_Mo_check_80 : decode bc_Mo_check 80 = .ok (.iload_n 1, 1) := by decide +kernel
theorem dc_Mo_check_81 : decode bc_Mo_check 81 = .ok (.aload_n 0, 1) := by decide +kernel
theorem dc_Mo_check_82 : decode bc_Mo_check 82 = .ok (.getfield 143, 3) := by decide +kernel
theorem dc_Mo_check_85 : decode bc_Mo_check 85 = .ok (.if_icmp .gt (26), 3) := by decide +kernel
theorem dc_Mo_check_88 : decode bc_Mo_check 88 = .ok (.aload_n 0, 1) := by decide +kernel
theorem dc_Mo_check_89 : decode bc_Mo_check 89 = .ok (.getfield 32, 3) := by decide +kernel
theorem dc_Mo_check_92 : decode bc_Mo_check 92 = .ok (.aload_n 0, 1) := by decide +kernel
theorem dc_Mo_check_93 : decode bc_Mo_check 93 = .ok (.getfield 41, 3) := by decide +kernel
theorem dc_Mo_check_96 : decode bc_Mo_check 96 = .ok (.iload_n 1, 1) := by decide +kernel
theorem dc_Mo_check_97 : decode bc_Mo_check 97 = .ok (.iaload, 1) := by decide +kernel
theorem dc_Mo_check_98 : decode bc_Mo_check 98 = .ok (.aload_n 0, 1) := by decide +kernel
theorem dc_Mo_check_99 : decode bc_Mo_check 99 = .ok (.getfield 38, 3) := by decide +kernel
theorem dc_Mo_check_102 : decode bc_Mo_check 102 = .ok (.iload_n 1, 1) := by decide +kernel
theorem dc_Mo_check_103 : decode bc_Mo_check 103 = .ok (.baload, 1) := by decide +kernel
theorem dc_Mo_check_104 : decode bc_Mo_check 104 = .ok (.bastore, 1) := by decide +kernel
theorem dc_Mo_check_105 : decode bc_Mo_check 105 = .ok (.iinc 1 (1), 3) := by decide +kernel
theorem dc_Mo_check_108 : decode bc_Mo_check 108 = .ok (.goto (-28), 3) := by decide +kernel
theorem dc_Mo_check_111 : decode bc_Mo_check 111 = .ok (.aload_n 0, 1) := by decide +kernel
theorem dc_Mo_check_112 : decode bc_Mo_check 112 = .ok (.getfield 143, 3) := by decide +kernel
theorem dc_Mo_check_115 : decode bc_Mo_check 115 = .ok (.istore_n 1, 1) := by decide +kernel
theorem dc_Mo_check_116 : decode bc_Mo_check 116 = .ok (.iload_n 1, 1) := by decide +kernel
theorem dc_Mo_check_117 : decode bc_Mo_check 117 = .ok (.ifCond .le (65), 3) := by decide +kernel
theorem dc_Mo_check_120 : decode bc_Mo_check 120 = .ok (.aload_n 0, 1) := by decide +kernel
theorem dc_Mo_check_121 : decode bc_Mo_check 121 = .ok (.getfield 41, 3) := by decide +kernel
theorem dc_Mo_check_124 : decode bc_Mo_check 124 = .ok (.iload_n 1, 1) := by decide +kernel
theorem dc_Mo_check_125 : decode bc_Mo_check 125 = .ok (.iaload, 1) := by decide +kernel
theorem dc_Mo_check_126 : decode bc_Mo_check 126 = .ok (.istore_n 2, 1) := by decide +kernel
theorem dc_Mo_check_127 : decode bc_Mo_check 127 = .ok (.aload_n 0, 1) := by decide +kernel
theorem dc_Mo_check_128 : decode bc_Mo_check 128 = .ok (.getfield 32, 3) := by decide +kernel
theorem dc_Mo_check_131 : decode bc_Mo_check 131 = .ok (.iload_n 2, 1) := by decide +kernel
theorem dc_Mo_check_132 : decode bc_Mo_check 132 = .ok (.aload_n 0, 1) := by decide +kernel
theorem dc_Mo_check_133 : decode bc_Mo_check 133 = .ok (.getfield 38, 3) := by decide +kernel
theorem dc_Mo_check_136 : decode bc_Mo_check 136 = .ok (.iload_n 1, 1) := by decide +kernel
theorem dc_Mo_check_137 : decode bc_Mo_check 137 = .ok (.baload, 1) := by decide +kernel
theorem dc_Mo_check_138 : decode bc_Mo_check 138 = .ok (.ifCond .ne (7), 3) := by decide +kernel
theorem dc_Mo_check_141 : decode bc_Mo_check 141 = .ok (.iconst 1, 1) := by decide +kernel
theorem dc_Mo_check_142 : decode bc_Mo_check 142 = .ok (.goto (4), 3) := by decide +kernel
theorem dc_Mo_check_145 : decode bc_Mo_check 145 = .ok (.iconst 0, 1) := by decide +kernel
theorem dc_Mo_check_146 : decode bc_Mo_check 146 = .ok (.bastore, 1) := by decide +kernel
theorem dc_Mo_check_147 : decode bc_Mo_check 147 = .ok (.aload_n 0, 1) := by decide +kernel
theorem dc_Mo_check_148 : decode bc_Mo_check 148 = .ok (.getfield 38, 3) := by decide +kernel
theorem dc_Mo_check_151 : decode bc_Mo_check 151 = .ok (.iload_n 1, 1) := by decide +kernel
theorem dc_Mo_check_152 : decode bc_Mo_check 152 = .ok (.baload, 1) := by decide +kernel
theorem dc_Mo_check_153 : decode bc_Mo_check 153 = .ok (.ifCond .eq (23), 3) := by decide +kernel
theorem dc_Mo_check_156 : decode bc_Mo_check 156 = .ok (.aload_n 0, 1) := by decide +kernel
theorem dc_Mo_check_157 : decode bc_Mo_check 157 = .ok (.getfield 35, 3) := by decide +kernel
theorem dc_Mo_check_160 : decode bc_Mo_check 160 = .ok (.iload_n 2, 1) := by decide +kernel
theorem dc_Mo_check_161 : decode bc_Mo_check 161 = .ok (.baload, 1) := by decide +kernel
theorem dc_Mo_check_162 : decode bc_Mo_check 162 = .ok (.ifCond .eq (14), 3) := by decide +kernel
theorem dc_Mo_check_165 : decode bc_Mo_check 165 = .ok (.aload_n 0, 1) := by decide +kernel
theorem dc_Mo_check_166 : decode bc_Mo_check 166 = .ok (.iload_n 2, 1) := by decide +kernel
theorem dc_Mo_check_167 : decode bc_Mo_check 167 = .ok (.invokevirtual 205, 3) := by decide +kernel
theorem dc_Mo_check_170 : decode bc_Mo_check 170 = .ok (.ifCond .ne (6), 3) := by decide +kernel
theorem dc_Mo_check_173 : decode bc_Mo_check 173 = .ok (.iload_n 1, 1) := by decide +kernel
theorem dc_Mo_check_174 : decode bc_Mo_check 174 = .ok (.ineg, 1) := by decide +kernel
theorem dc_Mo_check_175 : decode bc_Mo_check 175 = .ok (.ireturn, 1) := by decide +kernel
theorem dc_Mo_check_176 : decode bc_Mo_check 176 = .ok (.iinc 1 (-1), 3) := by decide +kernel
theorem dc_Mo_check_179 : decode bc_Mo_check 179 = .ok (.goto (-63), 3) := by decide +kernel
theorem dc_Mo_check_182 : decode bc_Mo_check 182 = .ok (.aload_n 0, 1) := by decide +kernel
theorem dc_Mo_check_183 : decode bc_Mo_check 183 = .ok (.iconst 1, 1) := by decide +kernel
theorem dc_Mo_check_184 : decode bc_Mo_check 184 = .ok (.putfield 140, 3) := by decide +kernel
theorem dc_Mo_check_187 : decode bc_Mo_check 187 = .ok (.iconst 0, 1) := by decide +kernel
theorem dc_Mo_check_188 : decode bc_Mo_check 188 = .ok (.istore_n 1, 1) := by decide +kernel
theorem dc_Mo_check_189 : decode bc_Mo_check 189 = .ok (.aload_n 0, 1) := by decide +kernel
theorem dc_Mo_check_190 : decode bc_Mo_check 190 = .ok (.getfield 150, 3) := by decide +kernel
theorem dc_Mo_check_193 : decode bc_Mo_check 193 = .ok (.iconst 1, 1) := by decide +kernel
theorem dc_Mo_check_194 : decode bc_Mo_check 194 = .ok (.iadd, 1) := by decide +kernel
theorem dc_Mo_check_195 : decode bc_Mo_check 195 = .ok (.istore_n 2, 1) := by decide +kernel
theorem dc_Mo_check_196 : decode bc_Mo_check 196 = .ok (.iload_n 2, 1) := by decide +kernel
theorem dc_Mo_check_197 : decode bc_Mo_check 197 = .ok (.aload_n 0, 1) := by decide +kernel
theorem dc_Mo_check_198 : decode bc_Mo_check 198 = .ok (.getfield 122, 3) := by decide +kernel
theorem dc_Mo_check_201 : decode bc_Mo_check 201 = .ok (.if_icmp .gt (26), 3) := by decide +kernel
theorem dc_Mo_check_204 : decode bc_Mo_check 204 = .ok (.aload_n 0, 1) := by decide +kernel
theorem dc_Mo_check_205 : decode bc_Mo_check 205 = .ok (.getfield 35, 3) := by decide +kernel
theorem dc_Mo_check_208 : decode bc_Mo_check 208 = .ok (.iload_n 2, 1) := by decide +kernel
theorem dc_Mo_check_209 : decode bc_Mo_check 209 = .ok (.baload, 1) := by decide +kernel
theorem dc_Mo_check_210 : decode bc_Mo_check 210 = .ok (.ifCond .eq (9), 3) := by decide +kernel
theorem dc_Mo_check_213 : decode bc_Mo_check 213 = .ok (.iload_n 1, 1) := by decide +kernel
theorem dc_Mo_check_214 : decode bc_Mo_check 214 = .ok (.iconst 1, 1) := by decide +kernel
theorem dc_Mo_check_215 : decode bc_Mo_check 215 = .ok (.iadd, 1) := by decide +kernel
theorem dc_Mo_check_216 : decode bc_Mo_check 216 = .ok (.goto (4), 3) := by decide +kernel
theorem dc_Mo_check_219 : decode bc_Mo_check 219 = .ok (.iload_n 1, 1) := by decide +kernel
theorem dc_Mo_check_220 : decode bc_Mo_check 220 = .ok (.istore_n 1, 1) := by decide +kernel
theorem dc_Mo_check_221 : decode bc_Mo_check 221 = .ok (.iinc 2 (1), 3) := by decide +kernel
theorem dc_Mo_check_224 : decode bc_Mo_check 224 = .ok (.goto (-28), 3) := by decide +kernel
theorem dc_Mo_check_227 : decode bc_Mo_check 227 = .ok (.iload_n 1, 1) := by decide +kernel
theorem dc_Mo_check_228 : decode bc_Mo_check 228 = .ok (.ireturn, 1) := by decide +kernel
theorem lv_add {lb : Nat → Bool} {lv c j : Nat} (h : lb j = lv.testBit j) : va_up lb c true j = (lv ||| 2 ^ c).testBit j := by
  unfold va_up
  rw [Nat.testBit_or, Nat.testBit_two_pow]
  by_cases hj : j = c
  · rw [if_pos hj, decide_eq_true hj.symm, Bool.or_true]
  · rw [if_neg hj, decide_eq_false (fun q => hj q.symm), Bool.or_false, h]
theorem lv_del {lb : Nat → Bool} {lv c j : Nat} (h : lb j = lv.testBit j) : va_up lb c false j = (nb_d lv (2 ^ c)).testBit j := by
  unfold va_up
  rw [nb_d_bit, Nat.testBit_two_pow]
  by_cases hj : j = c
  · rw [if_pos hj, decide_eq_true hj.symm]; simp
  · rw [if_neg hj, decide_eq_false (fun q => hj q.symm), h]; simp
theorem lv_sw {lb : Nat → Bool} {lv c j : Nat} {a : Bool} (h : lb j = lv.testBit j) : va_up lb c a j = (if (!a) = true then nb_d lv (2 ^ c) else lv ||| 2 ^ c).testBit j := by
  cases a
  · exact lv_del h
  · exact lv_add h

set_option maxHeartbeats 4000000 in
set_option maxRecDepth 100000 in
theorem ct_Mo_check (l : Launch) (D : va_G) (cI cZ : ClassId) (sz : Nat) (o : Nat) (mth : Nat) (mty : Nat) (x0 : Nat) (mat : Nat) (mfr : Nat) (mto : Nat) (mgd : Bool) (mrd : Nat) (x1 : Nat) (x2 : Nat) (x3 : Nat) (mhf : Bool) (mhp : Bool) (mcl : Bool) (mck : Bool) (mba : Nat) (mct : Nat) (x4 : Nat) (x5 : Nat) (x6 : Nat) (x7 : Nat) (x8 : Nat) (mst : Nat) (x9 : Nat) (x10 : Nat) (x11 : Nat) (x12 : Nat) (mtr : Nat) (mrs : Nat) (x13 : Nat) (x14 : Nat) (x15 : Nat) (x16 : Nat) (mwr : Nat) (x17 : Nat) (mfo : Nat) (fs : Nat → Nat) (fz : Nat → Nat) (fl : Nat → Int32) (lb : Nat → Bool) (kb : Nat → Bool) (rs : Nat → Nat) (im : Nat → Nat) (us : Nat → Bool) (lt : Nat → Bool) (hc : Nat → Nat) (hh : Nat → Int32) (ad : Nat → Bool) (nu : Nat → Nat) (qb : Nat → Nat) (pb : Nat → Nat) (hhp : mhp = true) (hcl : mcl = true) (hct : mct ≤ 32) (hba : mba ≤ mct) (hbt : mct ≤ mba + 16) (h16 : ∀ j, fs j < 65536) (hz : ∀ i, 1 ≤ i → i ≤ mct → fz i ≤ 8) (hst : mst ≤ 16) (hnu : ∀ i, 1 ≤ i → i ≤ mst → nu i ≤ mct) (hadd : ∀ i, 1 ≤ i → i ≤ mst → ad i = true → mba < nu i) (hlit : ∀ j, 1 ≤ j → j ≤ mct → 1 ≤ fz j → qb j < 16 ∧ fl (j * 8) = pt_lit (qb j) ∧ (qb j + 8) % 16 = pb j) (hfit : ∀ j, (pm_gb fs fz pb mct mba (fun i => !ad i) nu mst (pt_live (fun i => !ad i) nu mst 1 (2 ^ (mba + 1) - 2)) (2 ^ mct) (pt_z1 hc 33) hh rs im).2.2.1 j ≤ 400) : Met l yn_Mo_check (Cond.code yn_Mo_check bc_Mo_check 3 (some .int) :: kx_all) ({ frames := 6, cells := 0, slots := 0, locals := 133 } : Room) (kp [.ref o] D cI cZ [mo_c o mth mty x0 mat mfr mto mgd mrd x1 x2 x3 mhf mhp mcl mck mba mct x4 x5 x6 x7 x8 mst x9 x10 x11 x12 mtr mrs x13 x14 x15 x16 mwr x17 mfo, ar_n cI x4 33 fs, ar_n cI x5 33 fz, ar_i cI x6 264 fl, ar_b cZ x7 33 lb, ar_b cZ x8 33 kb, ar_n cI x13 8 rs, ar_n cI x14 8 im, ar_b cZ x15 8 us, ar_b cZ x16 33 lt, ar_n cI x11 33 hc, ar_i cI x12 6400 hh, ar_b cZ x9 17 ad, ar_n cI x10 17 nu] sz) (kw_e (some (.int (if (pm_gb fs fz pb mct mba (fun i => !ad i) nu mst (pt_live (fun i => !ad i) nu mst 1 (2 ^ (mba + 1) - 2)) (2 ^ mct) (pt_z1 hc 33) hh rs im).1 = 0 then nI (pt_ct (pm_gb fs fz pb mct mba (fun i => !ad i) nu mst (pt_live (fun i => !ad i) nu mst 1 (2 ^ (mba + 1) - 2)) (2 ^ mct) (pt_z1 hc 33) hh rs im).2.1 (mct + 1 - (mba + 1)) (mba + 1)) else -nI (pm_gb fs fz pb mct mba (fun i => !ad i) nu mst (pt_live (fun i => !ad i) nu mst 1 (2 ^ (mba + 1) - 2)) (2 ^ mct) (pt_z1 hc 33) hh rs im).1))) D kc_l (fun ex : (Nat → Bool) × (Nat → Bool) × (Nat → Bool) × (Nat → Bool) × Nat × Nat × (Nat → Nat) × (Nat → Nat) => [mo_c o 0 mty x0 mat mfr mto mgd mrd x1 x2 x3 mhf mhp mcl (decide ((pm_gb fs fz pb mct mba (fun i => !ad i) nu mst (pt_live (fun i => !ad i) nu mst 1 (2 ^ (mba + 1) - 2)) (2 ^ mct) (pt_z1 hc 33) hh rs im).1 = 0)) mba mct x4 x5 x6 x7 x8 mst x9 x10 x11 x12 ex.2.2.2.2.1 ex.2.2.2.2.2.1 x13 x14 x15 x16 mwr x17 mfo, ar_n cI x4 33 fs, ar_n cI x5 33 fz, ar_i cI x6 264 fl, ar_b cZ x7 33 ex.2.1, ar_b cZ x8 33 (pt_mkt ex.1 (pm_gb fs fz pb mct mba (fun i => !ad i) nu mst (pt_live (fun i => !ad i) nu mst 1 (2 ^ (mba + 1) - 2)) (2 ^ mct) (pt_z1 hc 33) hh rs im).2.1 mct), ar_n cI x13 8 ex.2.2.2.2.2.2.1, ar_n cI x14 8 ex.2.2.2.2.2.2.2, ar_b cZ x15 8 ex.2.2.1, ar_b cZ x16 33 ex.2.2.2.1, ar_n cI x11 33 ((pm_gb fs fz pb mct mba (fun i => !ad i) nu mst (pt_live (fun i => !ad i) nu mst 1 (2 ^ (mba + 1) - 2)) (2 ^ mct) (pt_z1 hc 33) hh rs im).2.2.1), ar_i cI x12 6400 ((pm_gb fs fz pb mct mba (fun i => !ad i) nu mst (pt_live (fun i => !ad i) nu mst 1 (2 ^ (mba + 1) - 2)) (2 ^ mct) (pt_z1 hc 33) hh rs im).2.2.2), ar_b cZ x9 17 ad, ar_n cI x10 17 nu]) (va_A [mo_c o mth mty x0 mat mfr mto mgd mrd x1 x2 x3 mhf mhp mcl mck mba mct x4 x5 x6 x7 x8 mst x9 x10 x11 x12 mtr mrs x13 x14 x15 x16 mwr x17 mfo, ar_n cI x4 33 fs, ar_n cI x5 33 fz, ar_i cI x6 264 fl, ar_b cZ x7 33 lb, ar_b cZ x8 33 kb, ar_n cI x13 8 rs, ar_n cI x14 8 im, ar_b cZ x15 8 us, ar_b cZ x16 33 lt, ar_n cI x11 33 hc, ar_i cI x12 6400 hh, ar_b cZ x9 17 ad, ar_n cI x10 17 nu] sz)) 0 0 (va_A [mo_c o mth mty x0 mat mfr mto mgd mrd x1 x2 x3 mhf mhp mcl mck mba mct x4 x5 x6 x7 x8 mst x9 x10 x11 x12 mtr mrs x13 x14 x15 x16 mwr x17 mfo, ar_n cI x4 33 fs, ar_n cI x5 33 fz, ar_i cI x6 264 fl, ar_b cZ x7 33 lb, ar_b cZ x8 33 kb, ar_n cI x13 8 rs, ar_n cI x14 8 im, ar_b cZ x15 8 us, ar_b cZ x16 33 lt, ar_n cI x11 33 hc, ar_i cI x12 6400 hh, ar_b cZ x9 17 ad, ar_n cI x10 17 nu] sz) := by
  refine kx_metE (by decide) (Nat.le_of_ble_eq_true rfl) ?_
  intro p e s m below meth c ls A hx hb hr hml hts hown hlocks hin hA hP hK hD hN hl hS
  have hown : s.vm.findClass rn_Mo = some m.cls := hown
  have hl : lv_has ls 3 [(0, .ref o)] := hl
  refine lv_aload_n hx hb dc_Mo_check_0 rfl (lv_at hl 0 rfl) ?_
  refine lv_iconst (v := nI 0) hx hb dc_Mo_check_1 (by decide +kernel) ?_
  refine va_put (ci := 10) (v := .int (nI 0)) (ty := .int) (C := rn_Mo) (T := fd_Mo) (N := 36) hx hb hts in_Mo ty_Mo tk_Mo nm_Mo hown hK hP hD hS 0 rfl rfl 0 (by decide) (hts _ wd_746) (fun _ h9 => h9) rfl (by decide +kernel) rfl rfl (Nat.le_of_ble_eq_true rfl) dc_Mo_check_2 (fun H locs hP hD hS => ?_)
  have hP : va_P D kc_l [mo_c o 0 mty x0 mat mfr mto mgd mrd x1 x2 x3 mhf mhp mcl mck mba mct x4 x5 x6 x7 x8 mst x9 x10 x11 x12 mtr mrs x13 x14 x15 x16 mwr x17 mfo, ar_n cI x4 33 fs, ar_n cI x5 33 fz, ar_i cI x6 264 fl, ar_b cZ x7 33 lb, ar_b cZ x8 33 kb, ar_n cI x13 8 rs, ar_n cI x14 8 im, ar_b cZ x15 8 us, ar_b cZ x16 33 lt, ar_n cI x11 33 hc, ar_i cI x12 6400 hh, ar_b cZ x9 17 ad, ar_n cI x10 17 nu] H := hP
  have hD : va_D A [mo_c o 0 mty x0 mat mfr mto mgd mrd x1 x2 x3 mhf mhp mcl mck mba mct x4 x5 x6 x7 x8 mst x9 x10 x11 x12 mtr mrs x13 x14 x15 x16 mwr x17 mfo, ar_n cI x4 33 fs, ar_n cI x5 33 fz, ar_i cI x6 264 fl, ar_b cZ x7 33 lb, ar_b cZ x8 33 kb, ar_n cI x13 8 rs, ar_n cI x14 8 im, ar_b cZ x15 8 us, ar_b cZ x16 33 lt, ar_n cI x11 33 hc, ar_i cI x12 6400 hh, ar_b cZ x9 17 ad, ar_n cI x10 17 nu] := hD
  refine lv_aload_n hx hb dc_Mo_check_5 rfl (lv_at hl 0 rfl) ?_
  refine va_get (ci := 10) (v := .int (kb_i mhp)) (C := rn_Mo) (T := fd_Mo) (N := 36) hx hb hts in_Mo hown hK hP 0 rfl rfl 12 (by decide) (hts _ wd_758) (fun _ h9 => h9) rfl dc_Mo_check_6 ?_
  refine kb_if_ne hx hb dc_Mo_check_9 rfl (fun hc9 => ?_) (fun hc9 => ?_)
  · refine lv_aload_n hx hb dc_Mo_check_18 rfl (lv_at hl 0 rfl) ?_
    refine lv_iconst (v := nI 0) hx hb dc_Mo_check_19 (by decide +kernel) ?_
    refine kn_top (y := kb_i false) (by decide +kernel) ?_
    refine va_put (ci := 10) (v := .int (kb_i false)) (ty := .boolean) (C := rn_Mo) (T := fd_Mo) (N := 36) hx hb hts in_Mo ty_Mo tk_Mo nm_Mo hown hK hP hD hS 0 rfl rfl 14 (by decide) (hts _ wd_760) (fun _ h9 => h9) rfl (by decide +kernel) (kb_nar _) (kb_fit _) (Nat.le_of_ble_eq_true rfl) dc_Mo_check_20 (fun H locs hP hD hS => ?_)
    have hP : va_P D kc_l [mo_c o 0 mty x0 mat mfr mto mgd mrd x1 x2 x3 mhf mhp mcl false mba mct x4 x5 x6 x7 x8 mst x9 x10 x11 x12 mtr mrs x13 x14 x15 x16 mwr x17 mfo, ar_n cI x4 33 fs, ar_n cI x5 33 fz, ar_i cI x6 264 fl, ar_b cZ x7 33 lb, ar_b cZ x8 33 kb, ar_n cI x13 8 rs, ar_n cI x14 8 im, ar_b cZ x15 8 us, ar_b cZ x16 33 lt, ar_n cI x11 33 hc, ar_i cI x12 6400 hh, ar_b cZ x9 17 ad, ar_n cI x10 17 nu] H := hP
    have hD : va_D A [mo_c o 0 mty x0 mat mfr mto mgd mrd x1 x2 x3 mhf mhp mcl false mba mct x4 x5 x6 x7 x8 mst x9 x10 x11 x12 mtr mrs x13 x14 x15 x16 mwr x17 mfo, ar_n cI x4 33 fs, ar_n cI x5 33 fz, ar_i cI x6 264 fl, ar_b cZ x7 33 lb, ar_b cZ x8 33 kb, ar_n cI x13 8 rs, ar_n cI x14 8 im, ar_b cZ x15 8 us, ar_b cZ x16 33 lt, ar_n cI x11 33 hc, ar_i cI x12 6400 hh, ar_b cZ x9 17 ad, ar_n cI x10 17 nu] := hD
    refine lv_aload_n hx hb dc_Mo_check_23 rfl (lv_at hl 0 rfl) ?_
    refine va_get (ci := 10) (v := .int (kb_i mcl)) (C := rn_Mo) (T := fd_Mo) (N := 36) hx hb hts in_Mo hown hK hP 0 rfl rfl 13 (by decide) (hts _ wd_759) (fun _ h9 => h9) rfl dc_Mo_check_24 ?_
    refine kb_if_ne hx hb dc_Mo_check_27 rfl (fun hc27 => ?_) (fun hc27 => ?_)
    · refine lv_aload_n hx hb dc_Mo_check_34 rfl (lv_at hl 0 rfl) ?_
      refine kw_call0 (wr := [ar_n cI x4 33 fs, ar_n cI x5 33 fz, ar_i cI x6 264 fl, ar_b cZ x8 33 kb, ar_n cI x13 8 rs, ar_n cI x14 8 im, ar_b cZ x15 8 us, ar_b cZ x16 33 lt, ar_n cI x11 33 hc, ar_i cI x12 6400 hh, ar_b cZ x9 17 ad, ar_n cI x10 17 nu]) (ws' := [mo_c o 0 mty x0 mat mfr mto mgd mrd x1 x2 x3 mhf mhp mcl false mba mct x4 x5 x6 x7 x8 mst x9 x10 x11 x12 mtr mrs x13 x14 x15 x16 mwr x17 mfo, ar_n cI x4 33 fs, ar_n cI x5 33 fz, ar_i cI x6 264 fl, ar_b cZ x7 33 (pt_fst lb mba 33), ar_b cZ x8 33 kb, ar_n cI x13 8 rs, ar_n cI x14 8 im, ar_b cZ x15 8 us, ar_b cZ x16 33 lt, ar_n cI x11 33 hc, ar_i cI x12 6400 hh, ar_b cZ x9 17 ad, ar_n cI x10 17 nu]) (va_runV (As := []) (rest := []) ⟨hx, hb, hml, hown, hts⟩ (ct_Mo_first l D cI cZ _ o 0 mty x0 mat mfr mto mgd mrd x1 x2 x3 mhf mhp mcl false mba mct x4 x5 x6 x7 x8 mst x9 x10 x11 x12 mtr mrs x13 x14 x15 x16 mwr x17 mfo lb (by omega)) (cwV 0 hts (kx_gV wd_930 wd_932 (kx_sel (q := (yn_Mo_first, 36)) (List.mem_append_right _ (List.mem_append_left _ (List.mem_of_getElem? (i := 8) rfl)))) wd_9 wd_933) rfl rfl rfl ⟨rfl, yd_Mo_first⟩ ⟨Nat.le_of_ble_eq_true rfl, Nat.le_of_ble_eq_true rfl⟩) (kp_V (q0 := 0) (ci := 10) hP hD hK hN [0, 4] rfl rfl rfl rfl rfl) rfl rfl hl.1 rfl (lv_room (Nat.le_of_ble_eq_true rfl)) dc_Mo_check_35 ⟨Nat.le_of_ble_eq_true rfl, Nat.le_of_ble_eq_true rfl⟩) hP hD hS hA [0, 4] [1, 2, 3, 5, 6, 7, 8, 9, 10, 11, 12, 13] [12, 0, 1, 2, 13, 3, 4, 5, 6, 7, 8, 9, 10, 11] rfl rfl rfl (by decide) rfl rfl (fun H locs hP hD hS => ?_)
      refine lv_iconst (v := nI 1) hx hb dc_Mo_check_38 (by decide +kernel) ?_
      refine lv_istore_n (lv' := [(1, .int (nI 1)), (0, .ref o)]) hx hb dc_Mo_check_39 rfl hl (by decide) rfl (fun ls hl => ?_)
      have hP : va_P D kc_l [mo_c o 0 mty x0 mat mfr mto mgd mrd x1 x2 x3 mhf mhp mcl false mba mct x4 x5 x6 x7 x8 mst x9 x10 x11 x12 mtr mrs x13 x14 x15 x16 mwr x17 mfo, ar_n cI x4 33 fs, ar_n cI x5 33 fz, ar_i cI x6 264 fl, ar_b cZ x7 33 (pt_fst lb mba 33), ar_b cZ x8 33 (pt_m0 kb mct 1), ar_n cI x13 8 rs, ar_n cI x14 8 im, ar_b cZ x15 8 us, ar_b cZ x16 33 lt, ar_n cI x11 33 (pt_z1 hc 1), ar_i cI x12 6400 hh, ar_b cZ x9 17 ad, ar_n cI x10 17 nu] H := by rw [m0_1, z1_1]; exact hP
      have hD : va_D A [mo_c o 0 mty x0 mat mfr mto mgd mrd x1 x2 x3 mhf mhp mcl false mba mct x4 x5 x6 x7 x8 mst x9 x10 x11 x12 mtr mrs x13 x14 x15 x16 mwr x17 mfo, ar_n cI x4 33 fs, ar_n cI x5 33 fz, ar_i cI x6 264 fl, ar_b cZ x7 33 (pt_fst lb mba 33), ar_b cZ x8 33 (pt_m0 kb mct 1), ar_n cI x13 8 rs, ar_n cI x14 8 im, ar_b cZ x15 8 us, ar_b cZ x16 33 lt, ar_n cI x11 33 (pt_z1 hc 1), ar_i cI x12 6400 hh, ar_b cZ x9 17 ad, ar_n cI x10 17 nu] := by rw [m0_1, z1_1]; exact hD
      have lp_40 : ∀ (K : Nat) (i : Nat) (H : Heap) (locs : List Loc) (ls : Array Slot), 33 - i < K → va_P D kc_l [mo_c o 0 mty x0 mat mfr mto mgd mrd x1 x2 x3 mhf mhp mcl false mba mct x4 x5 x6 x7 x8 mst x9 x10 x11 x12 mtr mrs x13 x14 x15 x16 mwr x17 mfo, ar_n cI x4 33 fs, ar_n cI x5 33 fz, ar_i cI x6 264 fl, ar_b cZ x7 33 (pt_fst lb mba 33), ar_b cZ x8 33 (pt_m0 kb mct i), ar_n cI x13 8 rs, ar_n cI x14 8 im, ar_b cZ x15 8 us, ar_b cZ x16 33 lt, ar_n cI x11 33 (pt_z1 hc i), ar_i cI x12 6400 hh, ar_b cZ x9 17 ad, ar_n cI x10 17 nu] H → va_D A [mo_c o 0 mty x0 mat mfr mto mgd mrd x1 x2 x3 mhf mhp mcl false mba mct x4 x5 x6 x7 x8 mst x9 x10 x11 x12 mtr mrs x13 x14 x15 x16 mwr x17 mfo, ar_n cI x4 33 fs, ar_n cI x5 33 fz, ar_i cI x6 264 fl, ar_b cZ x7 33 (pt_fst lb mba 33), ar_b cZ x8 33 (pt_m0 kb mct i), ar_n cI x13 8 rs, ar_n cI x14 8 im, ar_b cZ x15 8 us, ar_b cZ x16 33 lt, ar_n cI x11 33 (pt_z1 hc i), ar_i cI x12 6400 hh, ar_b cZ x9 17 ad, ar_n cI x10 17 nu] → va_S A s.heap H locs → lv_has ls 3 [(1, .int (nI i)), (0, .ref o)] → (1 ≤ i ∧ i ≤ 33) → W p l e ({ frames := 6, cells := 0, slots := 0, locals := 133 } : Room) s m ([.ref o] : List Value).toArray below meth c H locs 0 0 (MQ below (kw_e (some (.int (if (pm_gb fs fz pb mct mba (fun i => !ad i) nu mst (pt_live (fun i => !ad i) nu mst 1 (2 ^ (mba + 1) - 2)) (2 ^ mct) (pt_z1 hc 33) hh rs im).1 = 0 then nI (pt_ct (pm_gb fs fz pb mct mba (fun i => !ad i) nu mst (pt_live (fun i => !ad i) nu mst 1 (2 ^ (mba + 1) - 2)) (2 ^ mct) (pt_z1 hc 33) hh rs im).2.1 (mct + 1 - (mba + 1)) (mba + 1)) else -nI (pm_gb fs fz pb mct mba (fun i => !ad i) nu mst (pt_live (fun i => !ad i) nu mst 1 (2 ^ (mba + 1) - 2)) (2 ^ mct) (pt_z1 hc 33) hh rs im).1))) D kc_l (fun ex : (Nat → Bool) × (Nat → Bool) × (Nat → Bool) × (Nat → Bool) × Nat × Nat × (Nat → Nat) × (Nat → Nat) => [mo_c o 0 mty x0 mat mfr mto mgd mrd x1 x2 x3 mhf mhp mcl (decide ((pm_gb fs fz pb mct mba (fun i => !ad i) nu mst (pt_live (fun i => !ad i) nu mst 1 (2 ^ (mba + 1) - 2)) (2 ^ mct) (pt_z1 hc 33) hh rs im).1 = 0)) mba mct x4 x5 x6 x7 x8 mst x9 x10 x11 x12 ex.2.2.2.2.1 ex.2.2.2.2.2.1 x13 x14 x15 x16 mwr x17 mfo, ar_n cI x4 33 fs, ar_n cI x5 33 fz, ar_i cI x6 264 fl, ar_b cZ x7 33 ex.2.1, ar_b cZ x8 33 (pt_mkt ex.1 (pm_gb fs fz pb mct mba (fun i => !ad i) nu mst (pt_live (fun i => !ad i) nu mst 1 (2 ^ (mba + 1) - 2)) (2 ^ mct) (pt_z1 hc 33) hh rs im).2.1 mct), ar_n cI x13 8 ex.2.2.2.2.2.2.1, ar_n cI x14 8 ex.2.2.2.2.2.2.2, ar_b cZ x15 8 ex.2.2.1, ar_b cZ x16 33 ex.2.2.2.1, ar_n cI x11 33 ((pm_gb fs fz pb mct mba (fun i => !ad i) nu mst (pt_live (fun i => !ad i) nu mst 1 (2 ^ (mba + 1) - 2)) (2 ^ mct) (pt_z1 hc 33) hh rs im).2.2.1), ar_i cI x12 6400 ((pm_gb fs fz pb mct mba (fun i => !ad i) nu mst (pt_live (fun i => !ad i) nu mst 1 (2 ^ (mba + 1) - 2)) (2 ^ mct) (pt_z1 hc 33) hh rs im).2.2.2), ar_b cZ x9 17 ad, ar_n cI x10 17 nu]) A) ([.ref o] : List Value).toArray s 0 0 A) (F0 m 40 ls []) := by
        intro K
        induction K with
        | zero =>
          intro i H locs ls hk
          exact absurd hk (Nat.not_lt_zero _)
        | succ K ih_40 =>
          intro i H locs ls hk hP hD hS hl h2
          refine lv_iload_n hx hb dc_Mo_check_40 rfl (lv_at hl 0 rfl) ?_
          refine lv_bipush (v := nI 33) hx hb dc_Mo_check_41 (by decide +kernel) ?_
          refine kn_icmp_ge hx hb (by omega) (by omega) dc_Mo_check_43 rfl (fun hc43 => ?_) (fun hc43 => ?_)
          · have hi9 : i = 33 := by omega
            rw [hi9] at hP hD
            have hl := lv_sub (l' := [(0, .ref o)]) hl [1] rfl
            refine lv_iconst (v := nI 1) hx hb dc_Mo_check_78 (by decide +kernel) ?_
            refine lv_istore_n (lv' := [(1, .int (nI 1)), (0, .ref o)]) hx hb dc_Mo_check_79 rfl hl (by decide) rfl (fun ls hl => ?_)
            have lp_80 : ∀ (K : Nat) (i2 : Nat) (lv1 : Nat) (lb1 : Nat → Bool) (H : Heap) (locs : List Loc) (ls : Array Slot), mst + 1 - i2 < K → va_P D kc_l [mo_c o 0 mty x0 mat mfr mto mgd mrd x1 x2 x3 mhf mhp mcl false mba mct x4 x5 x6 x7 x8 mst x9 x10 x11 x12 mtr mrs x13 x14 x15 x16 mwr x17 mfo, ar_n cI x4 33 fs, ar_n cI x5 33 fz, ar_i cI x6 264 fl, ar_b cZ x7 33 lb1, ar_b cZ x8 33 (pt_m0 kb mct 33), ar_n cI x13 8 rs, ar_n cI x14 8 im, ar_b cZ x15 8 us, ar_b cZ x16 33 lt, ar_n cI x11 33 (pt_z1 hc 33), ar_i cI x12 6400 hh, ar_b cZ x9 17 ad, ar_n cI x10 17 nu] H → va_D A [mo_c o 0 mty x0 mat mfr mto mgd mrd x1 x2 x3 mhf mhp mcl false mba mct x4 x5 x6 x7 x8 mst x9 x10 x11 x12 mtr mrs x13 x14 x15 x16 mwr x17 mfo, ar_n cI x4 33 fs, ar_n cI x5 33 fz, ar_i cI x6 264 fl, ar_b cZ x7 33 lb1, ar_b cZ x8 33 (pt_m0 kb mct 33), ar_n cI x13 8 rs, ar_n cI x14 8 im, ar_b cZ x15 8 us, ar_b cZ x16 33 lt, ar_n cI x11 33 (pt_z1 hc 33), ar_i cI x12 6400 hh, ar_b cZ x9 17 ad, ar_n cI x10 17 nu] → va_S A s.heap H locs → lv_has ls 3 [(1, .int (nI i2)), (0, .ref o)] → (pt_live (fun i => !ad i) nu (mst + 1 - i2) i2 lv1 = pt_live (fun i => !ad i) nu mst 1 (2 ^ (mba + 1) - 2)) → (1 ≤ i2 ∧ i2 ≤ mst + 1) → (∀ j, 1 ≤ j → j ≤ mct → lb1 j = lv1.testBit j) → W p l e ({ frames := 6, cells := 0, slots := 0, locals := 133 } : Room) s m ([.ref o] : List Value).toArray below meth c H locs 0 0 (MQ below (kw_e (some (.int (if (pm_gb fs fz pb mct mba (fun i => !ad i) nu mst (pt_live (fun i => !ad i) nu mst 1 (2 ^ (mba + 1) - 2)) (2 ^ mct) (pt_z1 hc 33) hh rs im).1 = 0 then nI (pt_ct (pm_gb fs fz pb mct mba (fun i => !ad i) nu mst (pt_live (fun i => !ad i) nu mst 1 (2 ^ (mba + 1) - 2)) (2 ^ mct) (pt_z1 hc 33) hh rs im).2.1 (mct + 1 - (mba + 1)) (mba + 1)) else -nI (pm_gb fs fz pb mct mba (fun i => !ad i) nu mst (pt_live (fun i => !ad i) nu mst 1 (2 ^ (mba + 1) - 2)) (2 ^ mct) (pt_z1 hc 33) hh rs im).1))) D kc_l (fun ex : (Nat → Bool) × (Nat → Bool) × (Nat → Bool) × (Nat → Bool) × Nat × Nat × (Nat → Nat) × (Nat → Nat) => [mo_c o 0 mty x0 mat mfr mto mgd mrd x1 x2 x3 mhf mhp mcl (decide ((pm_gb fs fz pb mct mba (fun i => !ad i) nu mst (pt_live (fun i => !ad i) nu mst 1 (2 ^ (mba + 1) - 2)) (2 ^ mct) (pt_z1 hc 33) hh rs im).1 = 0)) mba mct x4 x5 x6 x7 x8 mst x9 x10 x11 x12 ex.2.2.2.2.1 ex.2.2.2.2.2.1 x13 x14 x15 x16 mwr x17 mfo, ar_n cI x4 33 fs, ar_n cI x5 33 fz, ar_i cI x6 264 fl, ar_b cZ x7 33 ex.2.1, ar_b cZ x8 33 (pt_mkt ex.1 (pm_gb fs fz pb mct mba (fun i => !ad i) nu mst (pt_live (fun i => !ad i) nu mst 1 (2 ^ (mba + 1) - 2)) (2 ^ mct) (pt_z1 hc 33) hh rs im).2.1 mct), ar_n cI x13 8 ex.2.2.2.2.2.2.1, ar_n cI x14 8 ex.2.2.2.2.2.2.2, ar_b cZ x15 8 ex.2.2.1, ar_b cZ x16 33 ex.2.2.2.1, ar_n cI x11 33 ((pm_gb fs fz pb mct mba (fun i => !ad i) nu mst (pt_live (fun i => !ad i) nu mst 1 (2 ^ (mba + 1) - 2)) (2 ^ mct) (pt_z1 hc 33) hh rs im).2.2.1), ar_i cI x12 6400 ((pm_gb fs fz pb mct mba (fun i => !ad i) nu mst (pt_live (fun i => !ad i) nu mst 1 (2 ^ (mba + 1) - 2)) (2 ^ mct) (pt_z1 hc 33) hh rs im).2.2.2), ar_b cZ x9 17 ad, ar_n cI x10 17 nu]) A) ([.ref o] : List Value).toArray s 0 0 A) (F0 m 80 ls []) := by
              intro K
              induction K with
              | zero =>
                intro i2 lv1 lb1 H locs ls hk
                exact absurd hk (Nat.not_lt_zero _)
              | succ K ih_80 =>
                intro i2 lv1 lb1 H locs ls hk hP hD hS hl h3 h4 h5
                refine lv_iload_n hx hb dc_Mo_check_80 rfl (lv_at hl 0 rfl) ?_
                refine lv_aload_n hx hb dc_Mo_check_81 rfl (lv_at hl 1 rfl) ?_
                refine va_get (ci := 10) (v := .int (nI mst)) (C := rn_Mo) (T := fd_Mo) (N := 36) hx hb hts in_Mo hown hK hP 0 rfl rfl 22 (by decide) (hts _ wd_768) (fun _ h9 => h9) rfl dc_Mo_check_82 ?_
                refine kn_icmp_gt hx hb (by omega) (by omega) dc_Mo_check_85 rfl (fun hc85 => ?_) (fun hc85 => ?_)
                · have hlvz : lv1 = pt_live (fun i => !ad i) nu mst 1 (2 ^ (mba + 1) - 2) := by rw [← h3, live_en (by omega)]
                  have hl := lv_sub (l' := [(0, .ref o)]) hl [1] rfl
                  refine lv_aload_n hx hb dc_Mo_check_111 rfl (lv_at hl 0 rfl) ?_
                  refine va_get (ci := 10) (v := .int (nI mst)) (C := rn_Mo) (T := fd_Mo) (N := 36) hx hb hts in_Mo hown hK hP 0 rfl rfl 22 (by decide) (hts _ wd_768) (fun _ h9 => h9) rfl dc_Mo_check_112 ?_
                  refine lv_istore_n (lv' := [(1, .int (nI mst)), (0, .ref o)]) hx hb dc_Mo_check_115 rfl hl (by decide) rfl (fun ls hl => ?_)
                  have lp_116 : ∀ (K : Nat) (k : Nat) (lk : Nat) (mk1 : Nat) (hc1 : Nat → Nat) (hh1 : Nat → Int32) (kb1 : Nat → Bool) (lb2 : Nat → Bool) (us1 : Nat → Bool) (lt1 : Nat → Bool) (t1 : Nat) (n1 : Nat) (rs1 : Nat → Nat) (im1 : Nat → Nat) (H : Heap) (locs : List Loc) (ls : Array Slot), k < K → va_P D kc_l [mo_c o 0 mty x0 mat mfr mto mgd mrd x1 x2 x3 mhf mhp mcl false mba mct x4 x5 x6 x7 x8 mst x9 x10 x11 x12 t1 n1 x13 x14 x15 x16 mwr x17 mfo, ar_n cI x4 33 fs, ar_n cI x5 33 fz, ar_i cI x6 264 fl, ar_b cZ x7 33 lb2, ar_b cZ x8 33 kb1, ar_n cI x13 8 rs1, ar_n cI x14 8 im1, ar_b cZ x15 8 us1, ar_b cZ x16 33 lt1, ar_n cI x11 33 hc1, ar_i cI x12 6400 hh1, ar_b cZ x9 17 ad, ar_n cI x10 17 nu] H → va_D A [mo_c o 0 mty x0 mat mfr mto mgd mrd x1 x2 x3 mhf mhp mcl false mba mct x4 x5 x6 x7 x8 mst x9 x10 x11 x12 t1 n1 x13 x14 x15 x16 mwr x17 mfo, ar_n cI x4 33 fs, ar_n cI x5 33 fz, ar_i cI x6 264 fl, ar_b cZ x7 33 lb2, ar_b cZ x8 33 kb1, ar_n cI x13 8 rs1, ar_n cI x14 8 im1, ar_b cZ x15 8 us1, ar_b cZ x16 33 lt1, ar_n cI x11 33 hc1, ar_i cI x12 6400 hh1, ar_b cZ x9 17 ad, ar_n cI x10 17 nu] → va_S A s.heap H locs → lv_has ls 3 [(1, .int (nI k)), (0, .ref o)] → (pm_gb fs fz pb mct mba (fun i => !ad i) nu k lk mk1 hc1 hh1 rs1 im1 = pm_gb fs fz pb mct mba (fun i => !ad i) nu mst (pt_live (fun i => !ad i) nu mst 1 (2 ^ (mba + 1) - 2)) (2 ^ mct) (pt_z1 hc 33) hh rs im) → (k ≤ mst) → (∀ j, 1 ≤ j → j ≤ mct → lb2 j = lk.testBit j) → (∀ j, 1 ≤ j → j ≤ mct → kb1 j = mk1.testBit j) → W p l e ({ frames := 6, cells := 0, slots := 0, locals := 133 } : Room) s m ([.ref o] : List Value).toArray below meth c H locs 0 0 (MQ below (kw_e (some (.int (if (pm_gb fs fz pb mct mba (fun i => !ad i) nu mst (pt_live (fun i => !ad i) nu mst 1 (2 ^ (mba + 1) - 2)) (2 ^ mct) (pt_z1 hc 33) hh rs im).1 = 0 then nI (pt_ct (pm_gb fs fz pb mct mba (fun i => !ad i) nu mst (pt_live (fun i => !ad i) nu mst 1 (2 ^ (mba + 1) - 2)) (2 ^ mct) (pt_z1 hc 33) hh rs im).2.1 (mct + 1 - (mba + 1)) (mba + 1)) else -nI (pm_gb fs fz pb mct mba (fun i => !ad i) nu mst (pt_live (fun i => !ad i) nu mst 1 (2 ^ (mba + 1) - 2)) (2 ^ mct) (pt_z1 hc 33) hh rs im).1))) D kc_l (fun ex : (Nat → Bool) × (Nat → Bool) × (Nat → Bool) × (Nat → Bool) × Nat × Nat × (Nat → Nat) × (Nat → Nat) => [mo_c o 0 mty x0 mat mfr mto mgd mrd x1 x2 x3 mhf mhp mcl (decide ((pm_gb fs fz pb mct mba (fun i => !ad i) nu mst (pt_live (fun i => !ad i) nu mst 1 (2 ^ (mba + 1) - 2)) (2 ^ mct) (pt_z1 hc 33) hh rs im).1 = 0)) mba mct x4 x5 x6 x7 x8 mst x9 x10 x11 x12 ex.2.2.2.2.1 ex.2.2.2.2.2.1 x13 x14 x15 x16 mwr x17 mfo, ar_n cI x4 33 fs, ar_n cI x5 33 fz, ar_i cI x6 264 fl, ar_b cZ x7 33 ex.2.1, ar_b cZ x8 33 (pt_mkt ex.1 (pm_gb fs fz pb mct mba (fun i => !ad i) nu mst (pt_live (fun i => !ad i) nu mst 1 (2 ^ (mba + 1) - 2)) (2 ^ mct) (pt_z1 hc 33) hh rs im).2.1 mct), ar_n cI x13 8 ex.2.2.2.2.2.2.1, ar_n cI x14 8 ex.2.2.2.2.2.2.2, ar_b cZ x15 8 ex.2.2.1, ar_b cZ x16 33 ex.2.2.2.1, ar_n cI x11 33 ((pm_gb fs fz pb mct mba (fun i => !ad i) nu mst (pt_live (fun i => !ad i) nu mst 1 (2 ^ (mba + 1) - 2)) (2 ^ mct) (pt_z1 hc 33) hh rs im).2.2.1), ar_i cI x12 6400 ((pm_gb fs fz pb mct mba (fun i => !ad i) nu mst (pt_live (fun i => !ad i) nu mst 1 (2 ^ (mba + 1) - 2)) (2 ^ mct) (pt_z1 hc 33) hh rs im).2.2.2), ar_b cZ x9 17 ad, ar_n cI x10 17 nu]) A) ([.ref o] : List Value).toArray s 0 0 A) (F0 m 116 ls []) := by
                    intro K
                    induction K with
                    | zero =>
                      intro k lk mk1 hc1 hh1 kb1 lb2 us1 lt1 t1 n1 rs1 im1 H locs ls hk
                      exact absurd hk (Nat.not_lt_zero _)
                    | succ K ih_116 =>
                      intro k lk mk1 hc1 hh1 kb1 lb2 us1 lt1 t1 n1 rs1 im1 H locs ls hk hP hD hS hl h6 h7 hlb1 hkb1
                      refine lv_iload_n hx hb dc_Mo_check_116 rfl (lv_at hl 0 rfl) ?_
                      refine lv_if_le hx hb dc_Mo_check_117 rfl (fun hc117 => ?_) (fun hc117 => ?_)
                      · have hk0 : k = 0 := (Nat.eq_zero_or_pos k).elim id (fun q => absurd hc117 (nI_nle q (by omega)))
                        have hge : (0, mk1, hc1, hh1) = pm_gb fs fz pb mct mba (fun i => !ad i) nu mst (pt_live (fun i => !ad i) nu mst 1 (2 ^ (mba + 1) - 2)) (2 ^ mct) (pt_z1 hc 33) hh rs im := by rw [← h6, hk0]; rfl
                        refine lv_aload_n hx hb dc_Mo_check_182 rfl (lv_at hl 1 rfl) ?_
                        refine lv_iconst (v := nI 1) hx hb dc_Mo_check_183 (by decide +kernel) ?_
                        refine kn_top (y := kb_i true) (by decide +kernel) ?_
                        refine va_put (ci := 10) (v := .int (kb_i true)) (ty := .boolean) (C := rn_Mo) (T := fd_Mo) (N := 36) hx hb hts in_Mo ty_Mo tk_Mo nm_Mo hown hK hP hD hS 0 rfl rfl 14 (by decide) (hts _ wd_760) (fun _ h9 => h9) rfl (by decide +kernel) (kb_nar _) (kb_fit _) (Nat.le_of_ble_eq_true rfl) dc_Mo_check_184 (fun H locs hP hD hS => ?_)
                        have hP : va_P D kc_l [mo_c o 0 mty x0 mat mfr mto mgd mrd x1 x2 x3 mhf mhp mcl true mba mct x4 x5 x6 x7 x8 mst x9 x10 x11 x12 t1 n1 x13 x14 x15 x16 mwr x17 mfo, ar_n cI x4 33 fs, ar_n cI x5 33 fz, ar_i cI x6 264 fl, ar_b cZ x7 33 lb2, ar_b cZ x8 33 kb1, ar_n cI x13 8 rs1, ar_n cI x14 8 im1, ar_b cZ x15 8 us1, ar_b cZ x16 33 lt1, ar_n cI x11 33 hc1, ar_i cI x12 6400 hh1, ar_b cZ x9 17 ad, ar_n cI x10 17 nu] H := hP
                        have hD : va_D A [mo_c o 0 mty x0 mat mfr mto mgd mrd x1 x2 x3 mhf mhp mcl true mba mct x4 x5 x6 x7 x8 mst x9 x10 x11 x12 t1 n1 x13 x14 x15 x16 mwr x17 mfo, ar_n cI x4 33 fs, ar_n cI x5 33 fz, ar_i cI x6 264 fl, ar_b cZ x7 33 lb2, ar_b cZ x8 33 kb1, ar_n cI x13 8 rs1, ar_n cI x14 8 im1, ar_b cZ x15 8 us1, ar_b cZ x16 33 lt1, ar_n cI x11 33 hc1, ar_i cI x12 6400 hh1, ar_b cZ x9 17 ad, ar_n cI x10 17 nu] := hD
                        refine lv_iconst (v := nI 0) hx hb dc_Mo_check_187 (by decide +kernel) ?_
                        refine lv_istore_n (lv' := [(1, .int (nI 0)), (0, .ref o)]) hx hb dc_Mo_check_188 rfl hl (by decide) rfl (fun ls hl => ?_)
                        refine lv_aload_n hx hb dc_Mo_check_189 rfl (lv_at hl 1 rfl) ?_
                        refine va_get (ci := 10) (v := .int (nI mba)) (C := rn_Mo) (T := fd_Mo) (N := 36) hx hb hts in_Mo hown hK hP 0 rfl rfl 15 (by decide) (hts _ wd_761) (fun _ h9 => h9) rfl dc_Mo_check_190 ?_
                        refine lv_iconst (v := nI 1) hx hb dc_Mo_check_193 (by decide +kernel) ?_
                        refine kn_iadd hx hb dc_Mo_check_194 ?_
                        refine lv_istore_n (lv' := [(2, .int (nI (mba + 1))), (1, .int (nI 0)), (0, .ref o)]) hx hb dc_Mo_check_195 rfl hl (by decide) rfl (fun ls hl => ?_)
                        have lp_196 : ∀ (K : Nat) (i3 : Nat) (n3 : Nat) (H : Heap) (locs : List Loc) (ls : Array Slot), mct + 1 - i3 < K → va_P D kc_l [mo_c o 0 mty x0 mat mfr mto mgd mrd x1 x2 x3 mhf mhp mcl true mba mct x4 x5 x6 x7 x8 mst x9 x10 x11 x12 t1 n1 x13 x14 x15 x16 mwr x17 mfo, ar_n cI x4 33 fs, ar_n cI x5 33 fz, ar_i cI x6 264 fl, ar_b cZ x7 33 lb2, ar_b cZ x8 33 kb1, ar_n cI x13 8 rs1, ar_n cI x14 8 im1, ar_b cZ x15 8 us1, ar_b cZ x16 33 lt1, ar_n cI x11 33 hc1, ar_i cI x12 6400 hh1, ar_b cZ x9 17 ad, ar_n cI x10 17 nu] H → va_D A [mo_c o 0 mty x0 mat mfr mto mgd mrd x1 x2 x3 mhf mhp mcl true mba mct x4 x5 x6 x7 x8 mst x9 x10 x11 x12 t1 n1 x13 x14 x15 x16 mwr x17 mfo, ar_n cI x4 33 fs, ar_n cI x5 33 fz, ar_i cI x6 264 fl, ar_b cZ x7 33 lb2, ar_b cZ x8 33 kb1, ar_n cI x13 8 rs1, ar_n cI x14 8 im1, ar_b cZ x15 8 us1, ar_b cZ x16 33 lt1, ar_n cI x11 33 hc1, ar_i cI x12 6400 hh1, ar_b cZ x9 17 ad, ar_n cI x10 17 nu] → va_S A s.heap H locs → lv_has ls 3 [(2, .int (nI i3)), (1, .int (nI n3)), (0, .ref o)] → (n3 + pt_ct mk1 (mct + 1 - i3) i3 = pt_ct mk1 (mct + 1 - (mba + 1)) (mba + 1)) → (mba < i3 ∧ i3 ≤ mct + 1) → W p l e ({ frames := 6, cells := 0, slots := 0, locals := 133 } : Room) s m ([.ref o] : List Value).toArray below meth c H locs 0 0 (MQ below (kw_e (some (.int (if (pm_gb fs fz pb mct mba (fun i => !ad i) nu mst (pt_live (fun i => !ad i) nu mst 1 (2 ^ (mba + 1) - 2)) (2 ^ mct) (pt_z1 hc 33) hh rs im).1 = 0 then nI (pt_ct (pm_gb fs fz pb mct mba (fun i => !ad i) nu mst (pt_live (fun i => !ad i) nu mst 1 (2 ^ (mba + 1) - 2)) (2 ^ mct) (pt_z1 hc 33) hh rs im).2.1 (mct + 1 - (mba + 1)) (mba + 1)) else -nI (pm_gb fs fz pb mct mba (fun i => !ad i) nu mst (pt_live (fun i => !ad i) nu mst 1 (2 ^ (mba + 1) - 2)) (2 ^ mct) (pt_z1 hc 33) hh rs im).1))) D kc_l (fun ex : (Nat → Bool) × (Nat → Bool) × (Nat → Bool) × (Nat → Bool) × Nat × Nat × (Nat → Nat) × (Nat → Nat) => [mo_c o 0 mty x0 mat mfr mto mgd mrd x1 x2 x3 mhf mhp mcl (decide ((pm_gb fs fz pb mct mba (fun i => !ad i) nu mst (pt_live (fun i => !ad i) nu mst 1 (2 ^ (mba + 1) - 2)) (2 ^ mct) (pt_z1 hc 33) hh rs im).1 = 0)) mba mct x4 x5 x6 x7 x8 mst x9 x10 x11 x12 ex.2.2.2.2.1 ex.2.2.2.2.2.1 x13 x14 x15 x16 mwr x17 mfo, ar_n cI x4 33 fs, ar_n cI x5 33 fz, ar_i cI x6 264 fl, ar_b cZ x7 33 ex.2.1, ar_b cZ x8 33 (pt_mkt ex.1 (pm_gb fs fz pb mct mba (fun i => !ad i) nu mst (pt_live (fun i => !ad i) nu mst 1 (2 ^ (mba + 1) - 2)) (2 ^ mct) (pt_z1 hc 33) hh rs im).2.1 mct), ar_n cI x13 8 ex.2.2.2.2.2.2.1, ar_n cI x14 8 ex.2.2.2.2.2.2.2, ar_b cZ x15 8 ex.2.2.1, ar_b cZ x16 33 ex.2.2.2.1, ar_n cI x11 33 ((pm_gb fs fz pb mct mba (fun i => !ad i) nu mst (pt_live (fun i => !ad i) nu mst 1 (2 ^ (mba + 1) - 2)) (2 ^ mct) (pt_z1 hc 33) hh rs im).2.2.1), ar_i cI x12 6400 ((pm_gb fs fz pb mct mba (fun i => !ad i) nu mst (pt_live (fun i => !ad i) nu mst 1 (2 ^ (mba + 1) - 2)) (2 ^ mct) (pt_z1 hc 33) hh rs im).2.2.2), ar_b cZ x9 17 ad, ar_n cI x10 17 nu]) A) ([.ref o] : List Value).toArray s 0 0 A) (F0 m 196 ls []) := by
                          intro K
                          induction K with
                          | zero =>
                            intro i3 n3 H locs ls hk
                            exact absurd hk (Nat.not_lt_zero _)
                          | succ K ih_196 =>
                            intro i3 n3 H locs ls hk hP hD hS hl h8 h9
                            refine lv_iload_n hx hb dc_Mo_check_196 rfl (lv_at hl 0 rfl) ?_
                            refine lv_aload_n hx hb dc_Mo_check_197 rfl (lv_at hl 2 rfl) ?_
                            refine va_get (ci := 10) (v := .int (nI mct)) (C := rn_Mo) (T := fd_Mo) (N := 36) hx hb hts in_Mo hown hK hP 0 rfl rfl 16 (by decide) (hts _ wd_762) (fun _ h9 => h9) rfl dc_Mo_check_198 ?_
                            refine kn_icmp_gt hx hb (by omega) (by omega) dc_Mo_check_201 rfl (fun hc201 => ?_) (fun hc201 => ?_)
                            · refine lv_iload_n hx hb dc_Mo_check_227 rfl (lv_at hl 1 rfl) ?_
                              exact ke_iret (x := (kb1, lb2, us1, lt1, t1, n1, rs1, im1)) hx hb hr hlocks hP hD hS dc_Mo_check_228 (by rw [← hge, if_pos rfl, ← h8, show mct + 1 - i3 = 0 by omega]; rfl) (by rw [← hge, mkt_id hkb1]; rfl)
                            · refine lv_aload_n hx hb dc_Mo_check_204 rfl (lv_at hl 2 rfl) ?_
                              refine va_get (ci := 10) (v := .ref x8) (C := rn_Mo) (T := fd_Mo) (N := 36) hx hb hts in_Mo hown hK hP 0 rfl rfl 21 (by decide) (hts _ wd_767) (fun _ h9 => h9) rfl dc_Mo_check_205 ?_
                              refine lv_iload_n hx hb dc_Mo_check_208 rfl (lv_at hl 0 rfl) ?_
                              refine ka_bald (t := kb1) hx hb hK hP 5 1 rfl rfl (j := i3) (by omega) (by omega) dc_Mo_check_209 ?_
                              refine kb_if_eq hx hb dc_Mo_check_210 rfl (fun hc210 => ?_) (fun hc210 => ?_)
                              · refine lv_iload_n hx hb dc_Mo_check_219 rfl (lv_at hl 1 rfl) ?_
                                refine lv_istore_n (lv' := [(1, .int (nI n3)), (2, .int (nI i3)), (0, .ref o)]) hx hb dc_Mo_check_220 rfl hl (by decide) rfl (fun ls hl => ?_)
                                refine lv_iinc (k := 1) (v := nI (i3 + 1)) (lv' := [(2, .int (nI (i3 + 1))), (1, .int (nI n3)), (0, .ref o)]) hx hb dc_Mo_check_221 hl rfl (nI_1 _) (by decide) rfl (fun ls hl => ?_)
                                refine lv_goto hx hb dc_Mo_check_224 rfl ?_
                                exact ih_196 _ _ _ _ _ (by omega) hP hD hS hl (by rw [← h8, ct_st (i := i3) (by omega), if_neg (by rw [← hkb1 i3 (by omega) (by omega), hc210]; decide)]; omega) (⟨by omega, by omega⟩)
                              · refine lv_iload_n hx hb dc_Mo_check_213 rfl (lv_at hl 1 rfl) ?_
                                refine lv_iconst (v := nI 1) hx hb dc_Mo_check_214 (by decide +kernel) ?_
                                refine kn_iadd hx hb dc_Mo_check_215 ?_
                                refine lv_goto hx hb dc_Mo_check_216 rfl ?_
                                refine lv_istore_n (lv' := [(1, .int (nI (n3 + 1))), (2, .int (nI i3)), (0, .ref o)]) hx hb dc_Mo_check_220 rfl hl (by decide) rfl (fun ls hl => ?_)
                                refine lv_iinc (k := 1) (v := nI (i3 + 1)) (lv' := [(2, .int (nI (i3 + 1))), (1, .int (nI (n3 + 1))), (0, .ref o)]) hx hb dc_Mo_check_221 hl rfl (nI_1 _) (by decide) rfl (fun ls hl => ?_)
                                refine lv_goto hx hb dc_Mo_check_224 rfl ?_
                                exact ih_196 _ _ _ _ _ (by omega) hP hD hS hl (by rw [← h8, ct_st (i := i3) (by omega), if_pos (by rw [← hkb1 i3 (by omega) (by omega)]; exact hc210)]; omega) (⟨by omega, by omega⟩)
                        exact lp_196 _ (mba + 1) 0 _ _ _ (Nat.lt_succ_self _) hP hD hS hl (Nat.zero_add _) (⟨by omega, by omega⟩)
                      · have hk1 : 1 ≤ k := (Nat.eq_zero_or_pos k).elim (fun q => absurd (by rw [q]; decide +kernel) hc117) id
                        obtain ⟨q, hq⟩ : ∃ q, k = q + 1 := ⟨k - 1, by omega⟩
                        refine lv_aload_n hx hb dc_Mo_check_120 rfl (lv_at hl 1 rfl) ?_
                        refine va_get (ci := 10) (v := .ref x10) (C := rn_Mo) (T := fd_Mo) (N := 36) hx hb hts in_Mo hown hK hP 0 rfl rfl 24 (by decide) (hts _ wd_770) (fun _ h9 => h9) rfl dc_Mo_check_121 ?_
                        refine lv_iload_n hx hb dc_Mo_check_124 rfl (lv_at hl 0 rfl) ?_
                        refine ka_nald (t := nu) hx hb hK hP 13 0 rfl rfl (j := k) (by omega) (by omega) dc_Mo_check_125 ?_
                        refine lv_istore_n (lv' := [(2, .int (nI (nu k))), (1, .int (nI k)), (0, .ref o)]) hx hb dc_Mo_check_126 rfl hl (by decide) rfl (fun ls hl => ?_)
                        refine lv_aload_n hx hb dc_Mo_check_127 rfl (lv_at hl 2 rfl) ?_
                        refine va_get (ci := 10) (v := .ref x7) (C := rn_Mo) (T := fd_Mo) (N := 36) hx hb hts in_Mo hown hK hP 0 rfl rfl 20 (by decide) (hts _ wd_766) (fun _ h9 => h9) rfl dc_Mo_check_128 ?_
                        refine lv_iload_n hx hb dc_Mo_check_131 rfl (lv_at hl 0 rfl) ?_
                        refine lv_aload_n hx hb dc_Mo_check_132 rfl (lv_at hl 2 rfl) ?_
                        refine va_get (ci := 10) (v := .ref x9) (C := rn_Mo) (T := fd_Mo) (N := 36) hx hb hts in_Mo hown hK hP 0 rfl rfl 23 (by decide) (hts _ wd_769) (fun _ h9 => h9) rfl dc_Mo_check_133 ?_
                        refine lv_iload_n hx hb dc_Mo_check_136 rfl (lv_at hl 1 rfl) ?_
                        refine ka_bald (t := ad) hx hb hK hP 12 1 rfl rfl (j := k) (by omega) (by omega) dc_Mo_check_137 ?_
                        refine kb_if_ne hx hb dc_Mo_check_138 rfl (fun hc138 => ?_) (fun hc138 => ?_)
                        · have hak : ad k = true := hc138
                          have hdk : (!ad k) = false := by rw [hak]; rfl
                          have hlb9 : ∀ j, 1 ≤ j → j ≤ mct → va_up lb2 (nu k) false j = (nb_d lk (2 ^ nu k)).testBit j := fun j h8 h9 => lv_del (hlb1 j h8 h9)
                          refine lv_iconst (v := nI 0) hx hb dc_Mo_check_145 (by decide +kernel) ?_
                          refine kn_top (y := kb_i false) (by decide +kernel) ?_
                          refine ka_bast (t := lb2) hx hb hK hP hD hS 4 1 rfl rfl (j := nu k) (by have := hnu k (by omega) (by omega); omega) (by omega) dc_Mo_check_146 (ws' := [mo_c o 0 mty x0 mat mfr mto mgd mrd x1 x2 x3 mhf mhp mcl false mba mct x4 x5 x6 x7 x8 mst x9 x10 x11 x12 t1 n1 x13 x14 x15 x16 mwr x17 mfo, ar_n cI x4 33 fs, ar_n cI x5 33 fz, ar_i cI x6 264 fl, ar_b cZ x7 33 (va_up lb2 (nu k) false), ar_b cZ x8 33 kb1, ar_n cI x13 8 rs1, ar_n cI x14 8 im1, ar_b cZ x15 8 us1, ar_b cZ x16 33 lt1, ar_n cI x11 33 hc1, ar_i cI x12 6400 hh1, ar_b cZ x9 17 ad, ar_n cI x10 17 nu]) rfl (fun H locs hP hD hS => ?_)
                          refine lv_aload_n hx hb dc_Mo_check_147 rfl (lv_at hl 2 rfl) ?_
                          refine va_get (ci := 10) (v := .ref x9) (C := rn_Mo) (T := fd_Mo) (N := 36) hx hb hts in_Mo hown hK hP 0 rfl rfl 23 (by decide) (hts _ wd_769) (fun _ h9 => h9) rfl dc_Mo_check_148 ?_
                          refine lv_iload_n hx hb dc_Mo_check_151 rfl (lv_at hl 1 rfl) ?_
                          refine ka_bald (t := ad) hx hb hK hP 12 1 rfl rfl (j := k) (by omega) (by omega) dc_Mo_check_152 ?_
                          refine kb_if_eq hx hb dc_Mo_check_153 rfl (fun hc153 => ?_) (fun hc153 => ?_)
                          · exact absurd hc153 (by rw [hak]; decide)
                          · refine lv_aload_n hx hb dc_Mo_check_156 rfl (lv_at hl 2 rfl) ?_
                            refine va_get (ci := 10) (v := .ref x8) (C := rn_Mo) (T := fd_Mo) (N := 36) hx hb hts in_Mo hown hK hP 0 rfl rfl 21 (by decide) (hts _ wd_767) (fun _ h9 => h9) rfl dc_Mo_check_157 ?_
                            refine lv_iload_n hx hb dc_Mo_check_160 rfl (lv_at hl 0 rfl) ?_
                            refine ka_bald (t := kb1) hx hb hK hP 5 1 rfl rfl (j := nu k) (by have := hnu k (by omega) (by omega); omega) (by omega) dc_Mo_check_161 ?_
                            refine kb_if_eq hx hb dc_Mo_check_162 rfl (fun hc162 => ?_) (fun hc162 => ?_)
                            · have hmk : mk1.testBit (nu k) = false := by rw [← hkb1 (nu k) (by have := hadd k (by omega) (by omega) hak; omega) (hnu k (by omega) (by omega))]; exact hc162
                              refine lv_iinc (k := 1) (v := nI (k - 1)) (lv' := [(1, .int (nI (k - 1))), (2, .int (nI (nu k))), (0, .ref o)]) hx hb dc_Mo_check_176 hl rfl (kn_dec (by omega)) (by decide) rfl (fun ls hl => ?_)
                              refine lv_goto hx hb dc_Mo_check_179 rfl ?_
                              have hl := lv_sub (l' := [(1, .int (nI (k - 1))), (0, .ref o)]) hl [0, 2] rfl
                              exact ih_116 _ _ _ _ _ _ _ _ _ _ _ _ _ _ _ _ (by omega) hP hD hS hl (by rw [← h6, show k - 1 = q by omega]; conv => rhs; rw [hq, pm_gb, ← hq, if_neg (by rw [hdk]; decide), if_pos hmk]) (by omega) (hlb9) (hkb1)
                            · have hmk : mk1.testBit (nu k) = true := by rw [← hkb1 (nu k) (by have := hadd k (by omega) (by omega) hak; omega) (hnu k (by omega) (by omega))]; exact hc162
                              have hgr : pm_gb fs fz pb mct mba (fun i => !ad i) nu k lk mk1 hc1 hh1 rs1 im1 = (if (pt_right fs (nb_d lk (2 ^ nu k)) mk1 mct (fz (nu k)) (pb (nu k)) (fs (nu k)) rs1 im1).1 = true then pm_gb fs fz pb mct mba (fun i => !ad i) nu q (nb_d lk (2 ^ nu k)) (pt_right fs (nb_d lk (2 ^ nu k)) mk1 mct (fz (nu k)) (pb (nu k)) (fs (nu k)) rs1 im1).2.1 (va_up hc1 (nu k) (hc1 (nu k) + (pt_right fs (nb_d lk (2 ^ nu k)) mk1 mct (fz (nu k)) (pb (nu k)) (fs (nu k)) rs1 im1).2.2.1.length)) (pt_put hh1 (400 * (nu k - mba - 1) + hc1 (nu k)) (pt_right fs (nb_d lk (2 ^ nu k)) mk1 mct (fz (nu k)) (pb (nu k)) (fs (nu k)) rs1 im1).2.2.1) (pt_right fs (nb_d lk (2 ^ nu k)) mk1 mct (fz (nu k)) (pb (nu k)) (fs (nu k)) rs1 im1).2.2.2.2.2.2.1 (pt_right fs (nb_d lk (2 ^ nu k)) mk1 mct (fz (nu k)) (pb (nu k)) (fs (nu k)) rs1 im1).2.2.2.2.2.2.2 else (k, (pt_right fs (nb_d lk (2 ^ nu k)) mk1 mct (fz (nu k)) (pb (nu k)) (fs (nu k)) rs1 im1).2.1, va_up hc1 (nu k) (hc1 (nu k) + (pt_right fs (nb_d lk (2 ^ nu k)) mk1 mct (fz (nu k)) (pb (nu k)) (fs (nu k)) rs1 im1).2.2.1.length), pt_put hh1 (400 * (nu k - mba - 1) + hc1 (nu k)) (pt_right fs (nb_d lk (2 ^ nu k)) mk1 mct (fz (nu k)) (pb (nu k)) (fs (nu k)) rs1 im1).2.2.1)) := by
                                rw [hq, pm_gb, ← hq, if_neg (by rw [hdk]; decide), if_neg (by rw [hmk]; decide)]
                              have hfz : hc1 (nu k) + (pt_right fs (nb_d lk (2 ^ nu k)) mk1 mct (fz (nu k)) (pb (nu k)) (fs (nu k)) rs1 im1).2.2.1.length ≤ 400 := by
                                refine Nat.le_trans ?_ (hfit (nu k))
                                rw [← h6, hgr]
                                split
                                · refine Nat.le_trans ?_ (gbm_len _ _ _ _ _ _ _ (nu k))
                                  rw [va_up_self]; exact Nat.le_refl _
                                · show _ ≤ va_up hc1 (nu k) _ (nu k)
                                  rw [va_up_self]; exact Nat.le_refl _
                              refine lv_aload_n hx hb dc_Mo_check_165 rfl (lv_at hl 2 rfl) ?_
                              refine lv_iload_n hx hb dc_Mo_check_166 rfl (lv_at hl 0 rfl) ?_
                              refine kw_callE1 (wr := [ar_b cZ x9 17 ad, ar_n cI x10 17 nu]) (w1 := fun ex_1 : (Nat → Bool) × (Nat → Bool) => [mo_c o 0 mty x0 mat mfr mto mgd mrd x1 x2 x3 mhf mhp mcl false mba mct x4 x5 x6 x7 x8 mst x9 x10 x11 x12 ((pt_right fs (nb_d lk (2 ^ nu k)) mk1 mct (fz (nu k)) (pb (nu k)) (fs (nu k)) rs1 im1).2.2.2.2.1) ((pt_right fs (nb_d lk (2 ^ nu k)) mk1 mct (fz (nu k)) (pb (nu k)) (fs (nu k)) rs1 im1).2.2.2.1) x13 x14 x15 x16 mwr x17 mfo, ar_n cI x4 33 fs, ar_n cI x5 33 fz, ar_i cI x6 264 fl, ar_b cZ x7 33 (va_up lb2 (nu k) false), ar_b cZ x8 33 (pt_mkt kb1 (pt_right fs (nb_d lk (2 ^ nu k)) mk1 mct (fz (nu k)) (pb (nu k)) (fs (nu k)) rs1 im1).2.1 mct), ar_n cI x13 8 ((pt_right fs (nb_d lk (2 ^ nu k)) mk1 mct (fz (nu k)) (pb (nu k)) (fs (nu k)) rs1 im1).2.2.2.2.2.2.1), ar_n cI x14 8 ((pt_right fs (nb_d lk (2 ^ nu k)) mk1 mct (fz (nu k)) (pb (nu k)) (fs (nu k)) rs1 im1).2.2.2.2.2.2.2), ar_b cZ x15 8 ex_1.1, ar_b cZ x16 33 ex_1.2, ar_n cI x11 33 (va_up hc1 (nu k) (hc1 (nu k) + ((pt_right fs (nb_d lk (2 ^ nu k)) mk1 mct (fz (nu k)) (pb (nu k)) (fs (nu k)) rs1 im1).2.2.1).length)), ar_i cI x12 6400 (pt_put hh1 (400 * ((nu k) - mba - 1) + hc1 (nu k)) ((pt_right fs (nb_d lk (2 ^ nu k)) mk1 mct (fz (nu k)) (pb (nu k)) (fs (nu k)) rs1 im1).2.2.1))]) (ws' := fun ex_1 : (Nat → Bool) × (Nat → Bool) => [mo_c o 0 mty x0 mat mfr mto mgd mrd x1 x2 x3 mhf mhp mcl false mba mct x4 x5 x6 x7 x8 mst x9 x10 x11 x12 ((pt_right fs (nb_d lk (2 ^ nu k)) mk1 mct (fz (nu k)) (pb (nu k)) (fs (nu k)) rs1 im1).2.2.2.2.1) ((pt_right fs (nb_d lk (2 ^ nu k)) mk1 mct (fz (nu k)) (pb (nu k)) (fs (nu k)) rs1 im1).2.2.2.1) x13 x14 x15 x16 mwr x17 mfo, ar_n cI x4 33 fs, ar_n cI x5 33 fz, ar_i cI x6 264 fl, ar_b cZ x7 33 (va_up lb2 (nu k) false), ar_b cZ x8 33 (pt_mkt kb1 (pt_right fs (nb_d lk (2 ^ nu k)) mk1 mct (fz (nu k)) (pb (nu k)) (fs (nu k)) rs1 im1).2.1 mct), ar_n cI x13 8 ((pt_right fs (nb_d lk (2 ^ nu k)) mk1 mct (fz (nu k)) (pb (nu k)) (fs (nu k)) rs1 im1).2.2.2.2.2.2.1), ar_n cI x14 8 ((pt_right fs (nb_d lk (2 ^ nu k)) mk1 mct (fz (nu k)) (pb (nu k)) (fs (nu k)) rs1 im1).2.2.2.2.2.2.2), ar_b cZ x15 8 ex_1.1, ar_b cZ x16 33 ex_1.2, ar_n cI x11 33 (va_up hc1 (nu k) (hc1 (nu k) + ((pt_right fs (nb_d lk (2 ^ nu k)) mk1 mct (fz (nu k)) (pb (nu k)) (fs (nu k)) rs1 im1).2.2.1).length)), ar_i cI x12 6400 (pt_put hh1 (400 * ((nu k) - mba - 1) + hc1 (nu k)) ((pt_right fs (nb_d lk (2 ^ nu k)) mk1 mct (fz (nu k)) (pb (nu k)) (fs (nu k)) rs1 im1).2.2.1)), ar_b cZ x9 17 ad, ar_n cI x10 17 nu]) (va_runV (As := [.int (nI (nu k))]) (rest := []) ⟨hx, hb, hml, hown, hts⟩ (ct_Mo_holds l D cI cZ _ o 0 mty x0 mat mfr mto mgd mrd x1 x2 x3 mhf mhp mcl false mba mct x4 x5 x6 x7 x8 mst x9 x10 x11 x12 t1 n1 x13 x14 x15 x16 mwr x17 mfo fs fz fl (va_up lb2 (nu k) false) kb1 rs1 im1 us1 lt1 hc1 hh1 (nu k) (nb_d lk (2 ^ nu k)) mk1 (qb (nu k)) (pb (nu k)) (hct) (h16) (hlb9) (hkb1) (hz (nu k) (by have := hadd k (by omega) (by omega) hak; omega) (hnu k (by omega) (by omega))) (hadd k (by omega) (by omega) hak) (by have := hnu k (by omega) (by omega); omega) (by have := hnu k (by omega) (by omega); omega) (hlit (nu k) (by have := hadd k (by omega) (by omega) hak; omega) (hnu k (by omega) (by omega))) (hfz)) (cwV 1 hts (kx_gV wd_942 wd_944 (kx_sel (q := (yn_Mo_holds, 36)) (List.mem_append_right _ (List.mem_append_left _ (List.mem_of_getElem? (i := 10) rfl)))) wd_9 wd_945) rfl rfl rfl ⟨rfl, yd_Mo_holds⟩ ⟨Nat.le_of_ble_eq_true rfl, Nat.le_of_ble_eq_true rfl⟩) (kp_V (q0 := 0) (ci := 10) hP hD hK hN [0, 1, 2, 3, 4, 5, 6, 7, 8, 9, 10, 11] rfl rfl rfl rfl rfl) rfl rfl hl.1 rfl (lv_room (Nat.le_of_ble_eq_true rfl)) dc_Mo_check_167 ⟨Nat.le_of_ble_eq_true rfl, Nat.le_of_ble_eq_true rfl⟩) hP hD hS hA [0, 1, 2, 3, 4, 5, 6, 7, 8, 9, 10, 11] [12, 13] [2, 3, 4, 5, 6, 7, 8, 9, 10, 11, 12, 13, 0, 1] rfl rfl rfl (by decide) (fun _ => rfl) rfl (fun ex_1 H locs hP hD hS => ?_)
                              generalize hRz : pt_right fs (nb_d lk (2 ^ nu k)) mk1 mct (fz (nu k)) (pb (nu k)) (fs (nu k)) rs1 im1 = ZZ at hP hD hgr hfz ⊢
                              refine kb_if_ne hx hb dc_Mo_check_170 rfl (fun hc170 => ?_) (fun hc170 => ?_)
                              · refine lv_iinc (k := 1) (v := nI (k - 1)) (lv' := [(1, .int (nI (k - 1))), (2, .int (nI (nu k))), (0, .ref o)]) hx hb dc_Mo_check_176 hl rfl (kn_dec (by omega)) (by decide) rfl (fun ls hl => ?_)
                                refine lv_goto hx hb dc_Mo_check_179 rfl ?_
                                have hl := lv_sub (l' := [(1, .int (nI (k - 1))), (0, .ref o)]) hl [0, 2] rfl
                                exact ih_116 _ _ _ _ _ _ _ _ _ _ _ _ _ _ _ _ (by omega) hP hD hS hl (by rw [← h6, show k - 1 = q by omega, hgr, if_pos hc170]) (by omega) (hlb9) (fun j h8 h9 => mkt_at h8 h9)
                              · rw [if_neg (show ¬ ZZ.1 = true by rw [hc170]; decide)] at hgr
                                refine lv_iload_n hx hb dc_Mo_check_173 rfl (lv_at hl 1 rfl) ?_
                                refine lv_ineg hx hb dc_Mo_check_174 ?_
                                exact ke_iret (x := (kb1, va_up lb2 (nu k) false, ex_1.1, ex_1.2, ZZ.2.2.2.2.1, ZZ.2.2.2.1, ZZ.2.2.2.2.2.2.1, ZZ.2.2.2.2.2.2.2)) hx hb hr hlocks hP hD hS dc_Mo_check_175 (by rw [← h6, hgr]; exact (if_neg (show ¬ k = 0 by omega)).symm) (by rw [← h6, hgr]; dsimp only; rw [show decide (k = 0) = false from decide_eq_false (by omega)])
                        · have hak : ad k = false := hc138
                          have hdk : (!ad k) = true := by rw [hak]; rfl
                          have hlb9 : ∀ j, 1 ≤ j → j ≤ mct → va_up lb2 (nu k) true j = (lk ||| 2 ^ nu k).testBit j := fun j h8 h9 => lv_add (hlb1 j h8 h9)
                          refine lv_iconst (v := nI 1) hx hb dc_Mo_check_141 (by decide +kernel) ?_
                          refine lv_goto hx hb dc_Mo_check_142 rfl ?_
                          refine kn_top (y := kb_i true) (by decide +kernel) ?_
                          refine ka_bast (t := lb2) hx hb hK hP hD hS 4 1 rfl rfl (j := nu k) (by have := hnu k (by omega) (by omega); omega) (by omega) dc_Mo_check_146 (ws' := [mo_c o 0 mty x0 mat mfr mto mgd mrd x1 x2 x3 mhf mhp mcl false mba mct x4 x5 x6 x7 x8 mst x9 x10 x11 x12 t1 n1 x13 x14 x15 x16 mwr x17 mfo, ar_n cI x4 33 fs, ar_n cI x5 33 fz, ar_i cI x6 264 fl, ar_b cZ x7 33 (va_up lb2 (nu k) true), ar_b cZ x8 33 kb1, ar_n cI x13 8 rs1, ar_n cI x14 8 im1, ar_b cZ x15 8 us1, ar_b cZ x16 33 lt1, ar_n cI x11 33 hc1, ar_i cI x12 6400 hh1, ar_b cZ x9 17 ad, ar_n cI x10 17 nu]) rfl (fun H locs hP hD hS => ?_)
                          refine lv_aload_n hx hb dc_Mo_check_147 rfl (lv_at hl 2 rfl) ?_
                          refine va_get (ci := 10) (v := .ref x9) (C := rn_Mo) (T := fd_Mo) (N := 36) hx hb hts in_Mo hown hK hP 0 rfl rfl 23 (by decide) (hts _ wd_769) (fun _ h9 => h9) rfl dc_Mo_check_148 ?_
                          refine lv_iload_n hx hb dc_Mo_check_151 rfl (lv_at hl 1 rfl) ?_
                          refine ka_bald (t := ad) hx hb hK hP 12 1 rfl rfl (j := k) (by omega) (by omega) dc_Mo_check_152 ?_
                          refine kb_if_eq hx hb dc_Mo_check_153 rfl (fun hc153 => ?_) (fun hc153 => ?_)
                          · refine lv_iinc (k := 1) (v := nI (k - 1)) (lv' := [(1, .int (nI (k - 1))), (2, .int (nI (nu k))), (0, .ref o)]) hx hb dc_Mo_check_176 hl rfl (kn_dec (by omega)) (by decide) rfl (fun ls hl => ?_)
                            refine lv_goto hx hb dc_Mo_check_179 rfl ?_
                            have hl := lv_sub (l' := [(1, .int (nI (k - 1))), (0, .ref o)]) hl [0, 2] rfl
                            exact ih_116 _ _ _ _ _ _ _ _ _ _ _ _ _ _ _ _ (by omega) hP hD hS hl (by rw [← h6, show k - 1 = q by omega]; conv => rhs; rw [hq, pm_gb, ← hq, if_pos hdk]) (by omega) (hlb9) (hkb1)
                          · exact absurd hc153 (by rw [hak]; decide)
                  exact lp_116 _ mst lv1 (2 ^ mct) (pt_z1 hc 33) hh (pt_m0 kb mct 33) lb1 us lt mtr mrs rs im _ _ _ (Nat.lt_succ_self _) hP hD hS hl (by rw [hlvz]) (by omega) (h5) (fun j h8 h9 => by unfold pt_m0; rw [if_pos (by omega), Nat.testBit_two_pow]; exact decide_eq_decide.mpr ⟨fun q => q.symm, fun q => q.symm⟩)
                · refine lv_aload_n hx hb dc_Mo_check_88 rfl (lv_at hl 1 rfl) ?_
                  refine va_get (ci := 10) (v := .ref x7) (C := rn_Mo) (T := fd_Mo) (N := 36) hx hb hts in_Mo hown hK hP 0 rfl rfl 20 (by decide) (hts _ wd_766) (fun _ h9 => h9) rfl dc_Mo_check_89 ?_
                  refine lv_aload_n hx hb dc_Mo_check_92 rfl (lv_at hl 1 rfl) ?_
                  refine va_get (ci := 10) (v := .ref x10) (C := rn_Mo) (T := fd_Mo) (N := 36) hx hb hts in_Mo hown hK hP 0 rfl rfl 24 (by decide) (hts _ wd_770) (fun _ h9 => h9) rfl dc_Mo_check_93 ?_
                  refine lv_iload_n hx hb dc_Mo_check_96 rfl (lv_at hl 0 rfl) ?_
                  refine ka_nald (t := nu) hx hb hK hP 13 0 rfl rfl (j := i2) (by omega) (by omega) dc_Mo_check_97 ?_
                  refine lv_aload_n hx hb dc_Mo_check_98 rfl (lv_at hl 1 rfl) ?_
                  refine va_get (ci := 10) (v := .ref x9) (C := rn_Mo) (T := fd_Mo) (N := 36) hx hb hts in_Mo hown hK hP 0 rfl rfl 23 (by decide) (hts _ wd_769) (fun _ h9 => h9) rfl dc_Mo_check_99 ?_
                  refine lv_iload_n hx hb dc_Mo_check_102 rfl (lv_at hl 0 rfl) ?_
                  refine ka_bald (t := ad) hx hb hK hP 12 1 rfl rfl (j := i2) (by omega) (by omega) dc_Mo_check_103 ?_
                  refine ka_bast (t := lb1) hx hb hK hP hD hS 4 1 rfl rfl (j := nu i2) (by have := hnu i2 (by omega) (by omega); omega) (by omega) dc_Mo_check_104 (ws' := [mo_c o 0 mty x0 mat mfr mto mgd mrd x1 x2 x3 mhf mhp mcl false mba mct x4 x5 x6 x7 x8 mst x9 x10 x11 x12 mtr mrs x13 x14 x15 x16 mwr x17 mfo, ar_n cI x4 33 fs, ar_n cI x5 33 fz, ar_i cI x6 264 fl, ar_b cZ x7 33 (va_up lb1 (nu i2) (ad i2)), ar_b cZ x8 33 (pt_m0 kb mct 33), ar_n cI x13 8 rs, ar_n cI x14 8 im, ar_b cZ x15 8 us, ar_b cZ x16 33 lt, ar_n cI x11 33 (pt_z1 hc 33), ar_i cI x12 6400 hh, ar_b cZ x9 17 ad, ar_n cI x10 17 nu]) rfl (fun H locs hP hD hS => ?_)
                  refine lv_iinc (k := 0) (v := nI (i2 + 1)) (lv' := [(1, .int (nI (i2 + 1))), (0, .ref o)]) hx hb dc_Mo_check_105 hl rfl (nI_1 _) (by decide) rfl (fun ls hl => ?_)
                  refine lv_goto hx hb dc_Mo_check_108 rfl ?_
                  have hlv2 : pt_live (fun i => !ad i) nu (mst + 1 - (i2 + 1)) (i2 + 1) (if (!ad i2) = true then nb_d lv1 (2 ^ nu i2) else lv1 ||| 2 ^ nu i2) = pt_live (fun i => !ad i) nu mst 1 (2 ^ (mba + 1) - 2) := by rw [← h3]; exact (live_st (by omega)).symm
                  have hlb2 : ∀ j, 1 ≤ j → j ≤ mct → va_up lb1 (nu i2) (ad i2) j = (if (!ad i2) = true then nb_d lv1 (2 ^ nu i2) else lv1 ||| 2 ^ nu i2).testBit j := fun j h8 h9 => lv_sw (h5 j h8 h9)
                  exact ih_80 _ _ _ _ _ _ (by omega) hP hD hS hl (hlv2) (⟨by omega, by omega⟩) (hlb2)
            exact lp_80 _ 1 (2 ^ (mba + 1) - 2) (pt_fst lb mba 33) _ _ _ (Nat.lt_succ_self _) hP hD hS hl (rfl) (⟨by omega, by omega⟩) (fun j h8 h9 => by rw [fo_bit h8]; unfold pt_fst; rw [if_pos (by omega)])
          · refine lv_aload_n hx hb dc_Mo_check_46 rfl (lv_at hl 1 rfl) ?_
            refine va_get (ci := 10) (v := .ref x8) (C := rn_Mo) (T := fd_Mo) (N := 36) hx hb hts in_Mo hown hK hP 0 rfl rfl 21 (by decide) (hts _ wd_767) (fun _ h9 => h9) rfl dc_Mo_check_47 ?_
            refine lv_iload_n hx hb dc_Mo_check_50 rfl (lv_at hl 0 rfl) ?_
            refine lv_iload_n hx hb dc_Mo_check_51 rfl (lv_at hl 0 rfl) ?_
            refine lv_aload_n hx hb dc_Mo_check_52 rfl (lv_at hl 1 rfl) ?_
            refine va_get (ci := 10) (v := .int (nI mct)) (C := rn_Mo) (T := fd_Mo) (N := 36) hx hb hts in_Mo hown hK hP 0 rfl rfl 16 (by decide) (hts _ wd_762) (fun _ h9 => h9) rfl dc_Mo_check_53 ?_
            refine kn_icmp_ne hx hb (by omega) (by omega) dc_Mo_check_56 rfl (fun hc56 => ?_) (fun hc56 => ?_)
            · have hbb : false = decide (i = mct) := (decide_eq_false hc56).symm
              refine lv_iconst (v := nI 0) hx hb dc_Mo_check_63 (by decide +kernel) ?_
              refine kn_top (y := kb_i false) (by decide +kernel) ?_
              refine ka_bast (t := pt_m0 kb mct i) hx hb hK hP hD hS 5 1 rfl rfl (j := i) (by omega) (by omega) dc_Mo_check_64 (ws' := [mo_c o 0 mty x0 mat mfr mto mgd mrd x1 x2 x3 mhf mhp mcl false mba mct x4 x5 x6 x7 x8 mst x9 x10 x11 x12 mtr mrs x13 x14 x15 x16 mwr x17 mfo, ar_n cI x4 33 fs, ar_n cI x5 33 fz, ar_i cI x6 264 fl, ar_b cZ x7 33 (pt_fst lb mba 33), ar_b cZ x8 33 (va_up (pt_m0 kb mct i) i false), ar_n cI x13 8 rs, ar_n cI x14 8 im, ar_b cZ x15 8 us, ar_b cZ x16 33 lt, ar_n cI x11 33 (pt_z1 hc i), ar_i cI x12 6400 hh, ar_b cZ x9 17 ad, ar_n cI x10 17 nu]) rfl (fun H locs hP hD hS => ?_)
              refine lv_aload_n hx hb dc_Mo_check_65 rfl (lv_at hl 1 rfl) ?_
              refine va_get (ci := 10) (v := .ref x11) (C := rn_Mo) (T := fd_Mo) (N := 36) hx hb hts in_Mo hown hK hP 0 rfl rfl 25 (by decide) (hts _ wd_771) (fun _ h9 => h9) rfl dc_Mo_check_66 ?_
              refine lv_iload_n hx hb dc_Mo_check_69 rfl (lv_at hl 0 rfl) ?_
              refine lv_iconst (v := nI 0) hx hb dc_Mo_check_70 (by decide +kernel) ?_
              refine ka_nast (t := pt_z1 hc i) hx hb hK hP hD hS 10 0 rfl rfl (j := i) (by omega) (by omega) dc_Mo_check_71 (ws' := [mo_c o 0 mty x0 mat mfr mto mgd mrd x1 x2 x3 mhf mhp mcl false mba mct x4 x5 x6 x7 x8 mst x9 x10 x11 x12 mtr mrs x13 x14 x15 x16 mwr x17 mfo, ar_n cI x4 33 fs, ar_n cI x5 33 fz, ar_i cI x6 264 fl, ar_b cZ x7 33 (pt_fst lb mba 33), ar_b cZ x8 33 (va_up (pt_m0 kb mct i) i false), ar_n cI x13 8 rs, ar_n cI x14 8 im, ar_b cZ x15 8 us, ar_b cZ x16 33 lt, ar_n cI x11 33 (va_up (pt_z1 hc i) i 0), ar_i cI x12 6400 hh, ar_b cZ x9 17 ad, ar_n cI x10 17 nu]) rfl (fun H locs hP hD hS => ?_)
              refine lv_iinc (k := 0) (v := nI (i + 1)) (lv' := [(1, .int (nI (i + 1))), (0, .ref o)]) hx hb dc_Mo_check_72 hl rfl (nI_1 _) (by decide) rfl (fun ls hl => ?_)
              refine lv_goto hx hb dc_Mo_check_75 rfl ?_
              have hP : va_P D kc_l [mo_c o 0 mty x0 mat mfr mto mgd mrd x1 x2 x3 mhf mhp mcl false mba mct x4 x5 x6 x7 x8 mst x9 x10 x11 x12 mtr mrs x13 x14 x15 x16 mwr x17 mfo, ar_n cI x4 33 fs, ar_n cI x5 33 fz, ar_i cI x6 264 fl, ar_b cZ x7 33 (pt_fst lb mba 33), ar_b cZ x8 33 (pt_m0 kb mct (i + 1)), ar_n cI x13 8 rs, ar_n cI x14 8 im, ar_b cZ x15 8 us, ar_b cZ x16 33 lt, ar_n cI x11 33 (pt_z1 hc (i + 1)), ar_i cI x12 6400 hh, ar_b cZ x9 17 ad, ar_n cI x10 17 nu] H := by rw [← m0_s (by omega) hbb, ← z1_s (by omega)]; exact hP
              have hD : va_D A [mo_c o 0 mty x0 mat mfr mto mgd mrd x1 x2 x3 mhf mhp mcl false mba mct x4 x5 x6 x7 x8 mst x9 x10 x11 x12 mtr mrs x13 x14 x15 x16 mwr x17 mfo, ar_n cI x4 33 fs, ar_n cI x5 33 fz, ar_i cI x6 264 fl, ar_b cZ x7 33 (pt_fst lb mba 33), ar_b cZ x8 33 (pt_m0 kb mct (i + 1)), ar_n cI x13 8 rs, ar_n cI x14 8 im, ar_b cZ x15 8 us, ar_b cZ x16 33 lt, ar_n cI x11 33 (pt_z1 hc (i + 1)), ar_i cI x12 6400 hh, ar_b cZ x9 17 ad, ar_n cI x10 17 nu] := by rw [← m0_s (by omega) hbb, ← z1_s (by omega)]; exact hD
              exact ih_40 _ _ _ _ (by omega) hP hD hS hl (⟨by omega, by omega⟩)
            · have hbb : true = decide (i = mct) := (decide_eq_true hc56).symm
              refine lv_iconst (v := nI 1) hx hb dc_Mo_check_59 (by decide +kernel) ?_
              refine lv_goto hx hb dc_Mo_check_60 rfl ?_
              refine kn_top (y := kb_i true) (by decide +kernel) ?_
              refine ka_bast (t := pt_m0 kb mct i) hx hb hK hP hD hS 5 1 rfl rfl (j := i) (by omega) (by omega) dc_Mo_check_64 (ws' := [mo_c o 0 mty x0 mat mfr mto mgd mrd x1 x2 x3 mhf mhp mcl false mba mct x4 x5 x6 x7 x8 mst x9 x10 x11 x12 mtr mrs x13 x14 x15 x16 mwr x17 mfo, ar_n cI x4 33 fs, ar_n cI x5 33 fz, ar_i cI x6 264 fl, ar_b cZ x7 33 (pt_fst lb mba 33), ar_b cZ x8 33 (va_up (pt_m0 kb mct i) i true), ar_n cI x13 8 rs, ar_n cI x14 8 im, ar_b cZ x15 8 us, ar_b cZ x16 33 lt, ar_n cI x11 33 (pt_z1 hc i), ar_i cI x12 6400 hh, ar_b cZ x9 17 ad, ar_n cI x10 17 nu]) rfl (fun H locs hP hD hS => ?_)
              refine lv_aload_n hx hb dc_Mo_check_65 rfl (lv_at hl 1 rfl) ?_
              refine va_get (ci := 10) (v := .ref x11) (C := rn_Mo) (T := fd_Mo) (N := 36) hx hb hts in_Mo hown hK hP 0 rfl rfl 25 (by decide) (hts _ wd_771) (fun _ h9 => h9) rfl dc_Mo_check_66 ?_
              refine lv_iload_n hx hb dc_Mo_check_69 rfl (lv_at hl 0 rfl) ?_
              refine lv_iconst (v := nI 0) hx hb dc_Mo_check_70 (by decide +kernel) ?_
              refine ka_nast (t := pt_z1 hc i) hx hb hK hP hD hS 10 0 rfl rfl (j := i) (by omega) (by omega) dc_Mo_check_71 (ws' := [mo_c o 0 mty x0 mat mfr mto mgd mrd x1 x2 x3 mhf mhp mcl false mba mct x4 x5 x6 x7 x8 mst x9 x10 x11 x12 mtr mrs x13 x14 x15 x16 mwr x17 mfo, ar_n cI x4 33 fs, ar_n cI x5 33 fz, ar_i cI x6 264 fl, ar_b cZ x7 33 (pt_fst lb mba 33), ar_b cZ x8 33 (va_up (pt_m0 kb mct i) i true), ar_n cI x13 8 rs, ar_n cI x14 8 im, ar_b cZ x15 8 us, ar_b cZ x16 33 lt, ar_n cI x11 33 (va_up (pt_z1 hc i) i 0), ar_i cI x12 6400 hh, ar_b cZ x9 17 ad, ar_n cI x10 17 nu]) rfl (fun H locs hP hD hS => ?_)
              refine lv_iinc (k := 0) (v := nI (i + 1)) (lv' := [(1, .int (nI (i + 1))), (0, .ref o)]) hx hb dc_Mo_check_72 hl rfl (nI_1 _) (by decide) rfl (fun ls hl => ?_)
              refine lv_goto hx hb dc_Mo_check_75 rfl ?_
              have hP : va_P D kc_l [mo_c o 0 mty x0 mat mfr mto mgd mrd x1 x2 x3 mhf mhp mcl false mba mct x4 x5 x6 x7 x8 mst x9 x10 x11 x12 mtr mrs x13 x14 x15 x16 mwr x17 mfo, ar_n cI x4 33 fs, ar_n cI x5 33 fz, ar_i cI x6 264 fl, ar_b cZ x7 33 (pt_fst lb mba 33), ar_b cZ x8 33 (pt_m0 kb mct (i + 1)), ar_n cI x13 8 rs, ar_n cI x14 8 im, ar_b cZ x15 8 us, ar_b cZ x16 33 lt, ar_n cI x11 33 (pt_z1 hc (i + 1)), ar_i cI x12 6400 hh, ar_b cZ x9 17 ad, ar_n cI x10 17 nu] H := by rw [← m0_s (by omega) hbb, ← z1_s (by omega)]; exact hP
              have hD : va_D A [mo_c o 0 mty x0 mat mfr mto mgd mrd x1 x2 x3 mhf mhp mcl false mba mct x4 x5 x6 x7 x8 mst x9 x10 x11 x12 mtr mrs x13 x14 x15 x16 mwr x17 mfo, ar_n cI x4 33 fs, ar_n cI x5 33 fz, ar_i cI x6 264 fl, ar_b cZ x7 33 (pt_fst lb mba 33), ar_b cZ x8 33 (pt_m0 kb mct (i + 1)), ar_n cI x13 8 rs, ar_n cI x14 8 im, ar_b cZ x15 8 us, ar_b cZ x16 33 lt, ar_n cI x11 33 (pt_z1 hc (i + 1)), ar_i cI x12 6400 hh, ar_b cZ x9 17 ad, ar_n cI x10 17 nu] := by rw [← m0_s (by omega) hbb, ← z1_s (by omega)]; exact hD
              exact ih_40 _ _ _ _ (by omega) hP hD hS hl (⟨by omega, by omega⟩)
      exact lp_40 _ 1 _ _ _ (Nat.lt_succ_self _) hP hD hS hl (⟨by omega, by omega⟩)
    · exact absurd hc27 (by rw [hcl]; decide)
  · exact absurd hc9 (by rw [hhp]; decide)

set_option maxHeartbeats 4000000 in
set_option maxRecDepth 100000 in
theorem ct_Mo_check_no (l : Launch) (D : va_G) (cI cZ : ClassId) (sz : Nat) (o : Nat) (mth : Nat) (mty : Nat) (x0 : Nat) (mat : Nat) (mfr : Nat) (mto : Nat) (mgd : Bool) (mrd : Nat) (x1 : Nat) (x2 : Nat) (x3 : Nat) (mhf : Bool) (mhp : Bool) (mcl : Bool) (mck : Bool) (mba : Nat) (mct : Nat) (x4 : Nat) (x5 : Nat) (x6 : Nat) (x7 : Nat) (x8 : Nat) (mst : Nat) (x9 : Nat) (x10 : Nat) (x11 : Nat) (x12 : Nat) (mtr : Nat) (mrs : Nat) (x13 : Nat) (x14 : Nat) (x15 : Nat) (x16 : Nat) (mwr : Nat) (x17 : Nat) (mfo : Nat) (hhp : mhp = false) : Met l yn_Mo_check (Cond.code yn_Mo_check bc_Mo_check 3 (some .int) :: kx_all) ({ frames := 1, cells := 0, slots := 0, locals := 21 } : Room) (kp [.ref o] D cI cZ [mo_c o mth mty x0 mat mfr mto mgd mrd x1 x2 x3 mhf mhp mcl mck mba mct x4 x5 x6 x7 x8 mst x9 x10 x11 x12 mtr mrs x13 x14 x15 x16 mwr x17 mfo] sz) (kw_q (some (.int (nI 0))) D kc_l [mo_c o 1 mty x0 mat mfr mto mgd mrd x1 x2 x3 mhf mhp mcl mck mba mct x4 x5 x6 x7 x8 mst x9 x10 x11 x12 mtr mrs x13 x14 x15 x16 mwr x17 mfo] (va_A [mo_c o mth mty x0 mat mfr mto mgd mrd x1 x2 x3 mhf mhp mcl mck mba mct x4 x5 x6 x7 x8 mst x9 x10 x11 x12 mtr mrs x13 x14 x15 x16 mwr x17 mfo] sz)) 0 0 (va_A [mo_c o mth mty x0 mat mfr mto mgd mrd x1 x2 x3 mhf mhp mcl mck mba mct x4 x5 x6 x7 x8 mst x9 x10 x11 x12 mtr mrs x13 x14 x15 x16 mwr x17 mfo] sz) := by
  refine kx_metW (by decide) (Nat.le_of_ble_eq_true rfl) ?_
  intro p e s m below meth c ls A hx hb hr hml hts hown hlocks hin hA hP hK hD hN hl hS
  have hown : s.vm.findClass rn_Mo = some m.cls := hown
  have hl : lv_has ls 3 [(0, .ref o)] := hl
  refine lv_aload_n hx hb dc_Mo_check_0 rfl (lv_at hl 0 rfl) ?_
  refine lv_iconst (v := nI 0) hx hb dc_Mo_check_1 (by decide +kernel) ?_
  refine va_put (ci := 10) (v := .int (nI 0)) (ty := .int) (C := rn_Mo) (T := fd_Mo) (N := 36) hx hb hts in_Mo ty_Mo tk_Mo nm_Mo hown hK hP hD hS 0 rfl rfl 0 (by decide) (hts _ wd_746) (fun _ h9 => h9) rfl (by decide +kernel) rfl rfl (Nat.le_of_ble_eq_true rfl) dc_Mo_check_2 (fun H locs hP hD hS => ?_)
  have hP : va_P D kc_l [mo_c o 0 mty x0 mat mfr mto mgd mrd x1 x2 x3 mhf mhp mcl mck mba mct x4 x5 x6 x7 x8 mst x9 x10 x11 x12 mtr mrs x13 x14 x15 x16 mwr x17 mfo] H := hP
  have hD : va_D A [mo_c o 0 mty x0 mat mfr mto mgd mrd x1 x2 x3 mhf mhp mcl mck mba mct x4 x5 x6 x7 x8 mst x9 x10 x11 x12 mtr mrs x13 x14 x15 x16 mwr x17 mfo] := hD
  refine lv_aload_n hx hb dc_Mo_check_5 rfl (lv_at hl 0 rfl) ?_
  refine va_get (ci := 10) (v := .int (kb_i mhp)) (C := rn_Mo) (T := fd_Mo) (N := 36) hx hb hts in_Mo hown hK hP 0 rfl rfl 12 (by decide) (hts _ wd_758) (fun _ h9 => h9) rfl dc_Mo_check_6 ?_
  refine kb_if_ne hx hb dc_Mo_check_9 rfl (fun hc9 => ?_) (fun hc9 => ?_)
  · exact absurd hc9 (by rw [hhp]; decide)
  · refine lv_aload_n hx hb dc_Mo_check_12 rfl (lv_at hl 0 rfl) ?_
    refine lv_iconst (v := nI 1) hx hb dc_Mo_check_13 (by decide +kernel) ?_
    refine kw_call1 (wr := []) (ws' := [mo_c o 1 mty x0 mat mfr mto mgd mrd x1 x2 x3 mhf mhp mcl mck mba mct x4 x5 x6 x7 x8 mst x9 x10 x11 x12 mtr mrs x13 x14 x15 x16 mwr x17 mfo]) (va_runV (As := [.int (nI 1)]) (rest := []) ⟨hx, hb, hml, hown, hts⟩ (ct_Mo_refuse l D cI cZ _ o 0 mty x0 mat mfr mto mgd mrd x1 x2 x3 mhf mhp mcl mck mba mct x4 x5 x6 x7 x8 mst x9 x10 x11 x12 mtr mrs x13 x14 x15 x16 mwr x17 mfo 1) (cwV 1 hts (kx_gV wd_903 wd_905 (kx_sel (q := (yn_Mo_refuse, 36)) (List.mem_append_right _ (List.mem_append_left _ (List.mem_of_getElem? (i := 3) rfl)))) wd_9 wd_906) rfl rfl rfl ⟨rfl, yd_Mo_refuse⟩ ⟨Nat.le_of_ble_eq_true rfl, Nat.le_of_ble_eq_true rfl⟩) (kp_V (q0 := 0) (ci := 10) hP hD hK hN [0] rfl rfl rfl rfl rfl) rfl rfl hl.1 rfl (lv_room (Nat.le_of_ble_eq_true rfl)) dc_Mo_check_14 ⟨Nat.le_of_ble_eq_true rfl, Nat.le_of_ble_eq_true rfl⟩) hP hD hS hA [0] [] [0] rfl rfl rfl (by decide) rfl rfl (fun H locs hP hD hS => ?_)
    exact kw_iret hx hb hr hlocks hP hD hS dc_Mo_check_17 (rfl) (rfl)

set_option maxHeartbeats 4000000 in
set_option maxRecDepth 100000 in
theorem ct_Mo_check_open (l : Launch) (D : va_G) (cI cZ : ClassId) (sz : Nat) (o : Nat) (mth : Nat) (mty : Nat) (x0 : Nat) (mat : Nat) (mfr : Nat) (mto : Nat) (mgd : Bool) (mrd : Nat) (x1 : Nat) (x2 : Nat) (x3 : Nat) (mhf : Bool) (mhp : Bool) (mcl : Bool) (mck : Bool) (mba : Nat) (mct : Nat) (x4 : Nat) (x5 : Nat) (x6 : Nat) (x7 : Nat) (x8 : Nat) (mst : Nat) (x9 : Nat) (x10 : Nat) (x11 : Nat) (x12 : Nat) (mtr : Nat) (mrs : Nat) (x13 : Nat) (x14 : Nat) (x15 : Nat) (x16 : Nat) (mwr : Nat) (x17 : Nat) (mfo : Nat) (hhp : mhp = true) (hcl : mcl = false) : Met l yn_Mo_check (Cond.code yn_Mo_check bc_Mo_check 3 (some .int) :: kx_all) ({ frames := 0, cells := 0, slots := 0, locals := 0 } : Room) (kp [.ref o] D cI cZ [mo_c o mth mty x0 mat mfr mto mgd mrd x1 x2 x3 mhf mhp mcl mck mba mct x4 x5 x6 x7 x8 mst x9 x10 x11 x12 mtr mrs x13 x14 x15 x16 mwr x17 mfo] sz) (kw_q (some (.int ((-1000)))) D kc_l [mo_c o 0 mty x0 mat mfr mto mgd mrd x1 x2 x3 mhf mhp mcl false mba mct x4 x5 x6 x7 x8 mst x9 x10 x11 x12 mtr mrs x13 x14 x15 x16 mwr x17 mfo] (va_A [mo_c o mth mty x0 mat mfr mto mgd mrd x1 x2 x3 mhf mhp mcl mck mba mct x4 x5 x6 x7 x8 mst x9 x10 x11 x12 mtr mrs x13 x14 x15 x16 mwr x17 mfo] sz)) 0 0 (va_A [mo_c o mth mty x0 mat mfr mto mgd mrd x1 x2 x3 mhf mhp mcl mck mba mct x4 x5 x6 x7 x8 mst x9 x10 x11 x12 mtr mrs x13 x14 x15 x16 mwr x17 mfo] sz) := by
  refine kx_metW (by decide) (Nat.le_of_ble_eq_true rfl) ?_
  intro p e s m below meth c ls A hx hb hr hml hts hown hlocks hin hA hP hK hD hN hl hS
  have hown : s.vm.findClass rn_Mo = some m.cls := hown
  have hl : lv_has ls 3 [(0, .ref o)] := hl
  refine lv_aload_n hx hb dc_Mo_check_0 rfl (lv_at hl 0 rfl) ?_
  refine lv_iconst (v := nI 0) hx hb dc_Mo_check_1 (by decide +kernel) ?_
  refine va_put (ci := 10) (v := .int (nI 0)) (ty := .int) (C := rn_Mo) (T := fd_Mo) (N := 36) hx hb hts in_Mo ty_Mo tk_Mo nm_Mo hown hK hP hD hS 0 rfl rfl 0 (by decide) (hts _ wd_746) (fun _ h9 => h9) rfl (by decide +kernel) rfl rfl (Nat.le_of_ble_eq_true rfl) dc_Mo_check_2 (fun H locs hP hD hS => ?_)
  have hP : va_P D kc_l [mo_c o 0 mty x0 mat mfr mto mgd mrd x1 x2 x3 mhf mhp mcl mck mba mct x4 x5 x6 x7 x8 mst x9 x10 x11 x12 mtr mrs x13 x14 x15 x16 mwr x17 mfo] H := hP
  have hD : va_D A [mo_c o 0 mty x0 mat mfr mto mgd mrd x1 x2 x3 mhf mhp mcl mck mba mct x4 x5 x6 x7 x8 mst x9 x10 x11 x12 mtr mrs x13 x14 x15 x16 mwr x17 mfo] := hD
  refine lv_aload_n hx hb dc_Mo_check_5 rfl (lv_at hl 0 rfl) ?_
  refine va_get (ci := 10) (v := .int (kb_i mhp)) (C := rn_Mo) (T := fd_Mo) (N := 36) hx hb hts in_Mo hown hK hP 0 rfl rfl 12 (by decide) (hts _ wd_758) (fun _ h9 => h9) rfl dc_Mo_check_6 ?_
  refine kb_if_ne hx hb dc_Mo_check_9 rfl (fun hc9 => ?_) (fun hc9 => ?_)
  · refine lv_aload_n hx hb dc_Mo_check_18 rfl (lv_at hl 0 rfl) ?_
    refine lv_iconst (v := nI 0) hx hb dc_Mo_check_19 (by decide +kernel) ?_
    refine kn_top (y := kb_i false) (by decide +kernel) ?_
    refine va_put (ci := 10) (v := .int (kb_i false)) (ty := .boolean) (C := rn_Mo) (T := fd_Mo) (N := 36) hx hb hts in_Mo ty_Mo tk_Mo nm_Mo hown hK hP hD hS 0 rfl rfl 14 (by decide) (hts _ wd_760) (fun _ h9 => h9) rfl (by decide +kernel) (kb_nar _) (kb_fit _) (Nat.le_of_ble_eq_true rfl) dc_Mo_check_20 (fun H locs hP hD hS => ?_)
    have hP : va_P D kc_l [mo_c o 0 mty x0 mat mfr mto mgd mrd x1 x2 x3 mhf mhp mcl false mba mct x4 x5 x6 x7 x8 mst x9 x10 x11 x12 mtr mrs x13 x14 x15 x16 mwr x17 mfo] H := hP
    have hD : va_D A [mo_c o 0 mty x0 mat mfr mto mgd mrd x1 x2 x3 mhf mhp mcl false mba mct x4 x5 x6 x7 x8 mst x9 x10 x11 x12 mtr mrs x13 x14 x15 x16 mwr x17 mfo] := hD
    refine lv_aload_n hx hb dc_Mo_check_23 rfl (lv_at hl 0 rfl) ?_
    refine va_get (ci := 10) (v := .int (kb_i mcl)) (C := rn_Mo) (T := fd_Mo) (N := 36) hx hb hts in_Mo hown hK hP 0 rfl rfl 13 (by decide) (hts _ wd_759) (fun _ h9 => h9) rfl dc_Mo_check_24 ?_
    refine kb_if_ne hx hb dc_Mo_check_27 rfl (fun hc27 => ?_) (fun hc27 => ?_)
    · exact absurd hc27 (by rw [hcl]; decide)
    · refine lv_sipush (v := (-1000)) hx hb dc_Mo_check_30 (by decide +kernel) ?_
      exact kw_iret hx hb hr hlocks hP hD hS dc_Mo_check_33 (rfl) (rfl)
  · exact absurd hc9 (by rw [hhp]; decide)
