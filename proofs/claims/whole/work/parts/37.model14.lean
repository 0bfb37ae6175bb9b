/-! the reference: a formula, a proof -/
theorem fml_rk {t : Nat → Nat} {tn : Nat} {fz fs : Nat → Nat} {fl : Nat → Int32} {F : pt_F6} (hF : pt_fml t tn fz fs fl = F) (h : F.1 = true) : pt_rk F.2.1 F.2.2.2.1 F.2.2.2.2.1 F.2.2.2.2.2 ∧ F.2.1 ≤ 16 ∧ ((∀ j, fs j < 65536) → ∀ j, F.2.2.2.2.1 j < 65536) := by
  subst hF
  unfold pt_fml at h ⊢
  by_cases hk : pt_fok t tn = true
  · rw [if_pos hk] at h ⊢
    have hy : pt_num (pt_intv t (pt_ws t tn (pt_zz t tn (pt_zz t tn (pt_zz t tn 0)))) (pt_zz t tn (pt_zz t tn (pt_zz t tn (pt_zz t tn 0))))) ≤ 16 := by
      unfold pt_fok at hk
      rw [Bool.and_eq_true] at hk
      have h2 := (of_decide_eq_true hk.2).2.2
      generalize pt_intv t (pt_ws t tn (pt_zz t tn (pt_zz t tn (pt_zz t tn 0)))) (pt_zz t tn (pt_zz t tn (pt_zz t tn (pt_zz t tn 0)))) = y at h2 ⊢
      obtain ⟨h3, h4⟩ := h2
      unfold pt_num
      rw [Int32.lt_iff_toInt_lt] at h4
      have e16 : (nI 16).toInt = 16 := by decide
      rw [e16] at h4
      show y.toInt.toNat ≤ 16
      omega
    dsimp only at h ⊢
    obtain ⟨a, b, c, d⟩ := rows_rk (t := t) (tn := tn) (v := pt_num (pt_intv t (pt_ws t tn (pt_zz t tn (pt_zz t tn 0))) (pt_zz t tn (pt_zz t tn (pt_zz t tn 0))))) (pt_num (pt_intv t (pt_ws t tn (pt_zz t tn (pt_zz t tn (pt_zz t tn 0)))) (pt_zz t tn (pt_zz t tn (pt_zz t tn (pt_zz t tn 0)))))) 0 (pt_zz t tn (pt_zz t tn (pt_zz t tn (pt_zz t tn 0)))) fz fs fl rk_0
    exact ⟨a, by omega, d⟩
  · rw [if_neg hk] at h
    exact absurd (show false = true from h) (by decide)
theorem rk_rel {n : Nat} {gz gs rz : Nat → Nat} {gl rl : Nat → Int32} (h : pt_rk n gz gs gl) (hr : pt_rel n gz gl rz rl) {j : Nat} (hj : j < n) : ∃ bb pm, pt_row rl (8 * j) (rz j) bb pm (gs (j + 1)) := by
  obtain ⟨bb, pm, hw⟩ := h (j + 1) (by omega) (by omega)
  obtain ⟨r1, r2, r3⟩ := hr j hj
  rw [← r2] at hw
  exact ⟨bb, pm, row_same hw r3⟩
theorem cpy_rel {n : Nat} {gz rz : Nat → Nat} {gl rl fl : Nat → Int32} (hr : pt_rel n gz gl rz rl) {j d : Nat} (hj : j < n) : va_cpy rl fl (8 * j) (8 * d) (rz j) = va_cpy gl fl ((j + 1) * 8) (d * 8) (gz (j + 1)) := by
  obtain ⟨r1, r2, r3⟩ := hr j hj
  funext i
  unfold va_cpy
  rw [← r2, Nat.mul_comm 8 d]
  by_cases h : d * 8 ≤ i ∧ i < d * 8 + rz j
  · rw [if_pos h, if_pos h]
    exact r3 _ (by omega)
  · rw [if_neg h, if_neg h]
section SET
variable {gz gs : Nat → Nat} {gl : Nat → Int32} {dd : Nat → Bool} {m k lv n : Nat} {fz fs : Nat → Nat} {fl : Nat → Int32} {op : Bool} {dl : Nat → Bool} {nu : Nat → Nat}
theorem set_en (h : m ≤ k ∨ op = false) : pt_set gz gs gl dd (m - k) (k + 1) lv n fz fs fl k op dl nu = (n, fz, fs, fl, k, op, dl, nu) := by
  rcases h with h | h
  · rw [show m - k = 0 by omega, pt_set]
  · cases m - k with
    | zero => rw [pt_set]
    | succ r => rw [pt_set, if_pos h]
theorem set_del (h : k < m) (ho : op = true) (hd : dd (k + 1) = true) {z : Nat} (hz : pt_last (fun j => lv.testBit j && decide (fs j = gs (k + 1))) n = z) : pt_set gz gs gl dd (m - k) (k + 1) lv n fz fs fl k op dl nu = pt_set gz gs gl dd (m - (k + 1)) (k + 1 + 1) (nb_d lv (2 ^ z)) n fz fs fl (k + 1) op (va_up dl (k + 1) true) (va_up nu (k + 1) z) := by
  subst hz
  rw [show m - k = (m - (k + 1)) + 1 by omega, pt_set, if_neg (by rw [ho]; decide), if_pos hd, hd]
theorem set_add (h : k < m) (ho : op = true) (hd : dd (k + 1) = false) : pt_set gz gs gl dd (m - k) (k + 1) lv n fz fs fl k op dl nu = pt_set gz gs gl dd (m - (k + 1)) (k + 1 + 1) (lv ||| 2 ^ (n + 1)) (n + 1) (va_up fz (n + 1) (gz (k + 1))) (va_up fs (n + 1) (gs (k + 1))) (va_cpy gl fl ((k + 1) * 8) ((n + 1) * 8) (gz (k + 1))) (k + 1) (!decide (gz (k + 1) = 0)) (va_up dl (k + 1) false) (va_up nu (k + 1) (n + 1)) := by
  rw [show m - k = (m - (k + 1)) + 1 by omega, pt_set, if_neg (by rw [ho]; decide), if_neg (by rw [hd]; decide), hd]
end SET
theorem ad_st {ad dl : Nat → Bool} {k : Nat} {x : Bool} (h : ∀ i, 1 ≤ i → i ≤ k → ad i = !dl i) : ∀ i, 1 ≤ i → i ≤ k + 1 → va_up ad (k + 1) (!x) i = !va_up dl (k + 1) x i := by
  intro i h1 h2
  by_cases hi : i = k + 1
  · subst hi; rw [va_up_self, va_up_self]
  · rw [va_up_ne _ _ hi, va_up_ne _ _ hi]; exact h i h1 (by omega)

theorem fst_bit {lb : Nat → Bool} {ba : Nat} : ∀ j, 1 ≤ j → j ≤ 32 → pt_fst lb ba 33 j = (2 ^ (ba + 1) - 2).testBit j := by
  intro j h1 h2
  unfold pt_fst
  rw [if_pos ⟨h1, by omega⟩, fo_bit h1]
theorem dc_Mo_formula_0 : decode bc_Mo_formula 0 = .ok (.aload_n 0, 1) := by decide +kernel
theorem dc_Mo_formula_1 : decode bc_Mo_formula 1 = .ok (.iconst 0, 1) := by decide +kernel
theorem dc_Mo_formula_2 : decode bc_Mo_formula 2 = .ok (.putfield 65, 3) := by decide +kernel
theorem dc_Mo_formula_5 : decode bc_Mo_formula 5 = .ok (.aload_n 0, 1) := by decide +kernel
theorem dc_Mo_formula_6 : decode bc_Mo_formula 6 = .ok (.invokevirtual 128, 3) := by decide +kernel
theorem dc_Mo_formula_9 : decode bc_Mo_formula 9 = .ok (.ifCond .ne (9), 3) := by decide +kernel
theorem dc_Mo_formula_12 : decode bc_Mo_formula 12 = .ok (.aload_n 0, 1) := by decide +kernel
theorem dc_Mo_formula_13 : decode bc_Mo_formula 13 = .ok (.iconst 1, 1) := by decide +kernel
theorem dc_Mo_formula_14 : decode bc_Mo_formula 14 = .ok (.invokevirtual 131, 3) := by decide +kernel
theorem dc_Mo_formula_17 : decode bc_Mo_formula 17 = .ok (.ireturn, 1) := by decide +kernel
theorem dc_Mo_formula_18 : decode bc_Mo_formula 18 = .ok (.aload_n 0, 1) := by decide +kernel
theorem dc_Mo_formula_19 : decode bc_Mo_formula 19 = .ok (.iconst 0, 1) := by decide +kernel
theorem dc_Mo_formula_20 : decode bc_Mo_formula 20 = .ok (.putfield 69, 3) := by decide +kernel
theorem dc_Mo_formula_23 : decode bc_Mo_formula 23 = .ok (.aload_n 0, 1) := by decide +kernel
theorem dc_Mo_formula_24 : decode bc_Mo_formula 24 = .ok (.iconst 1, 1) := by decide +kernel
theorem dc_Mo_formula_25 : decode bc_Mo_formula 25 = .ok (.putfield 134, 3) := by decide +kernel
theorem dc_Mo_formula_28 : decode bc_Mo_formula 28 = .ok (.aload_n 0, 1) := by decide +kernel
theorem dc_Mo_formula_29 : decode bc_Mo_formula 29 = .ok (.iconst 0, 1) := by decide +kernel
theorem dc_Mo_formula_30 : decode bc_Mo_formula 30 = .ok (.putfield 137, 3) := by decide +kernel
theorem dc_Mo_formula_33 : decode bc_Mo_formula 33 = .ok (.aload_n 0, 1) := by decide +kernel
theorem dc_Mo_formula_34 : decode bc_Mo_formula 34 = .ok (.iconst 0, 1) := by decide +kernel
theorem dc_Mo_formula_35 : decode bc_Mo_formula 35 = .ok (.putfield 140, 3) := by decide +kernel
theorem dc_Mo_formula_38 : decode bc_Mo_formula 38 = .ok (.aload_n 0, 1) := by decide +kernel
theorem dc_Mo_formula_39 : decode bc_Mo_formula 39 = .ok (.iconst 0, 1) := by decide +kernel
theorem dc_Mo_formula_40 : decode bc_Mo_formula 40 = .ok (.putfield 122, 3) := by decide +kernel
theorem dc_Mo_formula_43 : decode bc_Mo_formula 43 = .ok (.aload_n 0, 1) := by decide +kernel
theorem dc_Mo_formula_44 : decode bc_Mo_formula 44 = .ok (.iconst 0, 1) := by decide +kernel
theorem dc_Mo_formula_45 : decode bc_Mo_formula 45 = .ok (.putfield 143, 3) := by decide +kernel
theorem dc_Mo_formula_48 : decode bc_Mo_formula 48 = .ok (.iconst 0, 1) := by decide +kernel
theorem dc_Mo_formula_49 : decode bc_Mo_formula 49 = .ok (.istore_n 1, 1) := by decide +kernel
theorem dc_Mo_formula_50 : decode bc_Mo_formula 50 = .ok (.iload_n 1, 1) := by decide +kernel
theorem dc_Mo_formula_51 : decode bc_Mo_formula 51 = .ok (.aload_n 0, 1) := by decide +kernel
theorem dc_Mo_formula_52 : decode bc_Mo_formula 52 = .ok (.getfield 91, 3) := by decide +kernel
theorem dc_Mo_formula_55 : decode bc_Mo_formula 55 = .ok (.if_icmp .ge (14), 3) := by decide +kernel
theorem dc_Mo_formula_58 : decode bc_Mo_formula 58 = .ok (.aload_n 0, 1) := by decide +kernel
theorem dc_Mo_formula_59 : decode bc_Mo_formula 59 = .ok (.iload_n 1, 1) := by decide +kernel
theorem dc_Mo_formula_60 : decode bc_Mo_formula 60 = .ok (.invokevirtual 146, 3) := by decide +kernel
theorem dc_Mo_formula_63 : decode bc_Mo_formula 63 = .ok (.iinc 1 (1), 3) := by decide +kernel
theorem dc_Mo_formula_66 : decode bc_Mo_formula 66 = .ok (.goto (-16), 3) := by decide +kernel
theorem dc_Mo_formula_69 : decode bc_Mo_formula 69 = .ok (.aload_n 0, 1) := by decide +kernel
theorem dc_Mo_formula_70 : decode bc_Mo_formula 70 = .ok (.aload_n 0, 1) := by decide +kernel
theorem dc_Mo_formula_71 : decode bc_Mo_formula 71 = .ok (.getfield 122, 3) := by decide +kernel
theorem dc_Mo_formula_74 : decode bc_Mo_formula 74 = .ok (.putfield 150, 3) := by decide +kernel
theorem dc_Mo_formula_77 : decode bc_Mo_formula 77 = .ok (.aload_n 0, 1) := by decide +kernel
theorem dc_Mo_formula_78 : decode bc_Mo_formula 78 = .ok (.getfield 150, 3) := by decide +kernel
theorem dc_Mo_formula_81 : decode bc_Mo_formula 81 = .ok (.ireturn, 1) := by decide +kernel
theorem dc_Mo_proof_0 : decode bc_Mo_proof 0 = .ok (.aload_n 0, 1) := by decide +kernel
theorem dc_Mo_proof_1 : decode bc_Mo_proof 1 = .ok (.iconst 0, 1) := by decide +kernel
theorem dc_Mo_proof_2 : decode bc_Mo_proof 2 = .ok (.putfield 65, 3) := by decide +kernel
theorem dc_Mo_proof_5 : decode bc_Mo_proof 5 = .ok (.aload_n 0, 1) := by decide +kernel
theorem dc_Mo_proof_6 : decode bc_Mo_proof 6 = .ok (.getfield 134, 3) := by decide +kernel
theorem dc_Mo_proof_9 : decode bc_Mo_proof 9 = .ok (.ifCond .ne (9), 3) := by decide +kernel
theorem dc_Mo_proof_12 : decode bc_Mo_proof 12 = .ok (.aload_n 0, 1) := by decide +kernel
theorem dc_Mo_proof_13 : decode bc_Mo_proof 13 = .ok (.iconst 1, 1) := by decide +kernel
theorem dc_Mo_proof_14 : decode bc_Mo_proof 14 = .ok (.invokevirtual 131, 3) := by decide +kernel
theorem dc_Mo_proof_17 : decode bc_Mo_proof 17 = .ok (.ireturn, 1) := by decide +kernel
theorem dc_Mo_proof_18 : decode bc_Mo_proof 18 = .ok (.iload_n 1, 1) := by decide +kernel
theorem dc_Mo_proof_19 : decode bc_Mo_proof 19 = .ok (.ifCond .eq (10), 3) := by decide +kernel
theorem dc_Mo_proof_22 : decode bc_Mo_proof 22 = .ok (.aload_n 0, 1) := by decide +kernel
theorem dc_Mo_proof_23 : decode bc_Mo_proof 23 = .ok (.invokevirtual 153, 3) := by decide +kernel
theorem dc_Mo_proof_26 : decode bc_Mo_proof 26 = .ok (.goto (7), 3) := by decide +kernel
theorem dc_Mo_proof_29 : decode bc_Mo_proof 29 = .ok (.aload_n 0, 1) := by decide +kernel
theorem dc_Mo_proof_30 : decode bc_Mo_proof 30 = .ok (.invokevirtual 156, 3) := by decide +kernel
theorem dc_Mo_proof_33 : decode bc_Mo_proof 33 = .ok (.istore_n 2, 1) := by decide +kernel
theorem dc_Mo_proof_34 : decode bc_Mo_proof 34 = .ok (.iload_n 2, 1) := by decide +kernel
theorem dc_Mo_proof_35 : decode bc_Mo_proof 35 = .ok (.ifCond .ne (9), 3) := by decide +kernel
theorem dc_Mo_proof_38 : decode bc_Mo_proof 38 = .ok (.aload_n 0, 1) := by decide +kernel
theorem dc_Mo_proof_39 : decode bc_Mo_proof 39 = .ok (.iconst 2, 1) := by decide +kernel
theorem dc_Mo_proof_40 : decode bc_Mo_proof 40 = .ok (.invokevirtual 131, 3) := by decide +kernel
theorem dc_Mo_proof_43 : decode bc_Mo_proof 43 = .ok (.ireturn, 1) := by decide +kernel
theorem dc_Mo_proof_44 : decode bc_Mo_proof 44 = .ok (.aload_n 0, 1) := by decide +kernel
theorem dc_Mo_proof_45 : decode bc_Mo_proof 45 = .ok (.iconst 0, 1) := by decide +kernel
theorem dc_Mo_proof_46 : decode bc_Mo_proof 46 = .ok (.putfield 69, 3) := by decide +kernel
theorem dc_Mo_proof_49 : decode bc_Mo_proof 49 = .ok (.aload_n 0, 1) := by decide +kernel
theorem dc_Mo_proof_50 : decode bc_Mo_proof 50 = .ok (.iconst 1, 1) := by decide +kernel
theorem dc_Mo_proof_51 : decode bc_Mo_proof 51 = .ok (.putfield 137, 3) := by decide +kernel
theorem dc_Mo_proof_54 : decode bc_Mo_proof 54 = .ok (.aload_n 0, 1) := by decide +kernel
theorem dc_Mo_proof_55 : decode bc_Mo_proof 55 = .ok (.iconst 0, 1) := by decide +kernel
theorem dc_Mo_proof_56 : decode bc_Mo_proof 56 = .ok (.putfield 140, 3) := by decide +kernel
theorem dc_Mo_proof_59 : decode bc_Mo_proof 59 = .ok (.aload_n 0, 1) := by decide +kernel
theorem dc_Mo_proof_60 : decode bc_Mo_proof 60 = .ok (.iconst 0, 1) := by decide +kernel
theorem dc_Mo_proof_61 : decode bc_Mo_proof 61 = .ok (.putfield 159, 3) := by decide +kernel
theorem dc_Mo_proof_64 : decode bc_Mo_proof 64 = .ok (.aload_n 0, 1) := by decide +kernel
theorem dc_Mo_proof_65 : decode bc_Mo_proof 65 = .ok (.aload_n 0, 1) := by decide +kernel
theorem dc_Mo_proof_66 : decode bc_Mo_proof 66 = .ok (.getfield 150, 3) := by decide +kernel
theorem dc_Mo_proof_69 : decode bc_Mo_proof 69 = .ok (.putfield 122, 3) := by decide +kernel
theorem dc_Mo_proof_72 : decode bc_Mo_proof 72 = .ok (.aload_n 0, 1) := by decide +kernel
theorem dc_Mo_proof_73 : decode bc_Mo_proof 73 = .ok (.iconst 0, 1) := by decide +kernel
theorem dc_Mo_proof_74 : decode bc_Mo_proof 74 = .ok (.putfield 143, 3) := by decide +kernel
theorem dc_Mo_proof_77 : decode bc_Mo_proof 77 = .ok (.aload_n 0, 1) := by decide +kernel
theorem dc_Mo_proof_78 : decode bc_Mo_proof 78 = .ok (.invokevirtual 162, 3) := by decide +kernel
theorem dc_Mo_proof_81 : decode bc_Mo_proof 81 = .ok (.iconst 0, 1) := by decide +kernel
theorem dc_Mo_proof_82 : decode bc_Mo_proof 82 = .ok (.istore_n 3, 1) := by decide +kernel
theorem dc_Mo_proof_83 : decode bc_Mo_proof 83 = .ok (.iload_n 3, 1) := by decide +kernel
theorem dc_Mo_proof_84 : decode bc_Mo_proof 84 = .ok (.aload_n 0, 1) := by decide +kernel
theorem dc_Mo_proof_85 : decode bc_Mo_proof 85 = .ok (.getfield 91, 3) := by decide +kernel
theorem dc_Mo_proof_88 : decode bc_Mo_proof 88 = .ok (.if_icmp .ge (143), 3) := by decide +kernel
theorem dc_Mo_proof_91 : decode bc_Mo_proof 91 = .ok (.aload_n 0, 1) := by decide +kernel
theorem dc_Mo_proof_92 : decode bc_Mo_proof 92 = .ok (.getfield 159, 3) := by decide +kernel
theorem dc_Mo_proof_95 : decode bc_Mo_proof 95 = .ok (.ifCond .ne (136), 3) := by decide +kernel
theorem dc_Mo_proof_98 : decode bc_Mo_proof 98 = .ok (.aload_n 0, 1) := by decide +kernel
theorem dc_Mo_proof_99 : decode bc_Mo_proof 99 = .ok (.dup, 1) := by decide +kernel
theorem dc_Mo_proof_100 : decode bc_Mo_proof 100 = .ok (.getfield 143, 3) := by decide +kernel
theorem dc_Mo_proof_103 : decode bc_Mo_proof 103 = .ok (.iconst 1, 1) := by decide +kernel
theorem dc_Mo_proof_104 : decode bc_Mo_proof 104 = .ok (.iadd, 1) := by decide +kernel
theorem dc_Mo_proof_105 : decode bc_Mo_proof 105 = .ok (.putfield 143, 3) := by decide +kernel
theorem dc_Mo_proof_108 : decode bc_Mo_proof 108 = .ok (.aload_n 0, 1) := by decide +kernel
theorem dc_Mo_proof_109 : decode bc_Mo_proof 109 = .ok (.getfield 38, 3) := by decide +kernel
theorem dc_Mo_proof_112 : decode bc_Mo_proof 112 = .ok (.aload_n 0, 1) := by decide +kernel
theorem dc_Mo_proof_113 : decode bc_Mo_proof 113 = .ok (.getfield 143, 3) := by decide +kernel
theorem dc_Mo_proof_116 : decode bc_Mo_proof 116 = .ok (.aload_n 0, 1) := by decide +kernel
theorem dc_Mo_proof_117 : decode bc_Mo_proof 117 = .ok (.getfield 19, 3) := by decide +kernel
theorem dc_Mo_proof_120 : decode bc_Mo_proof 120 = .ok (.iload_n 3, 1) := by decide +kernel
theorem dc_Mo_proof_121 : decode bc_Mo_proof 121 = .ok (.baload, 1) := by decide +kernel
theorem dc_Mo_proof_122 : decode bc_Mo_proof 122 = .ok (.ifCond .ne (7), 3) := by decide +kernel
theorem dc_Mo_proof_125 : decode bc_Mo_proof 125 = .ok (.iconst 1, 1) := by decide +kernel
theorem dc_Mo_proof_126 : decode bc_Mo_proof 126 = .ok (.goto (4), 3) := by decide +kernel
theorem dc_Mo_proof_129 : decode bc_Mo_proof 129 = .ok (.iconst 0, 1) := by decide +kernel
theorem dc_Mo_proof_130 : decode bc_Mo_proof 130 = .ok (.bastore, 1) := by decide +kernel
theorem dc_Mo_proof_131 : decode bc_Mo_proof 131 = .ok (.aload_n 0, 1) := by decide +kernel
theorem dc_Mo_proof_132 : decode bc_Mo_proof 132 = .ok (.getfield 19, 3) := by decide +kernel
theorem dc_Mo_proof_135 : decode bc_Mo_proof 135 = .ok (.iload_n 3, 1) := by decide +kernel
theorem dc_Mo_proof_136 : decode bc_Mo_proof 136 = .ok (.baload, 1) := by decide +kernel
theorem dc_Mo_proof_137 : decode bc_Mo_proof 137 = .ok (.ifCond .eq (39), 3) := by decide +kernel
theorem dc_Mo_proof_140 : decode bc_Mo_proof 140 = .ok (.aload_n 0, 1) := by decide +kernel
theorem dc_Mo_proof_141 : decode bc_Mo_proof 141 = .ok (.getfield 41, 3) := by decide +kernel
theorem dc_Mo_proof_144 : decode bc_Mo_proof 144 = .ok (.aload_n 0, 1) := by decide +kernel
theorem dc_Mo_proof_145 : decode bc_Mo_proof 145 = .ok (.getfield 143, 3) := by decide +kernel
theorem dc_Mo_proof_148 : decode bc_Mo_proof 148 = .ok (.aload_n 0, 1) := by decide +kernel
theorem dc_Mo_proof_149 : decode bc_Mo_proof 149 = .ok (.aload_n 0, 1) := by decide +kernel
theorem dc_Mo_proof_150 : decode bc_Mo_proof 150 = .ok (.iload_n 3, 1) := by decide +kernel
theorem dc_Mo_proof_151 : decode bc_Mo_proof 151 = .ok (.invokevirtual 125, 3) := by decide +kernel
theorem dc_Mo_proof_154 : decode bc_Mo_proof 154 = .ok (.invokevirtual 165, 3) := by decide +kernel
theorem dc_Mo_proof_157 : decode bc_Mo_proof 157 = .ok (.iastore, 1) := by decide +kernel
theorem dc_Mo_proof_158 : decode bc_Mo_proof 158 = .ok (.aload_n 0, 1) := by decide +kernel
theorem dc_Mo_proof_159 : decode bc_Mo_proof 159 = .ok (.getfield 32, 3) := by decide +kernel
theorem dc_Mo_proof_162 : decode bc_Mo_proof 162 = .ok (.aload_n 0, 1) := by decide +kernel
theorem dc_Mo_proof_163 : decode bc_Mo_proof 163 = .ok (.getfield 41, 3) := by decide +kernel
theorem dc_Mo_proof_166 : decode bc_Mo_proof 166 = .ok (.aload_n 0, 1) := by decide +kernel
theorem dc_Mo_proof_167 : decode bc_Mo_proof 167 = .ok (.getfield 143, 3) := by decide +kernel
theorem dc_Mo_proof_170 : decode bc_Mo_proof 170 = .ok (.iaload, 1) := by decide +kernel
theorem dc_Mo_proof_171 : decode bc_Mo_proof 171 = .ok (.iconst 0, 1) := by decide +kernel
theorem dc_Mo_proof_172 : decode bc_Mo_proof 172 = .ok (.bastore, 1) := by decide +kernel
theorem dc_Mo_proof_173 : decode bc_Mo_proof 173 = .ok (.goto (52), 3) := by decide +kernel
theorem dc_Mo_proof_176 : decode bc_Mo_proof 176 = .ok (.aload_n 0, 1) := by decide +kernel
theorem dc_Mo_proof_177 : decode bc_Mo_proof 177 = .ok (.iload_n 3, 1) := by decide +kernel
theorem dc_Mo_proof_178 : decode bc_Mo_proof 178 = .ok (.invokevirtual 146, 3) := by decide +kernel
theorem dc_Mo_proof_181 : decode bc_Mo_proof 181 = .ok (.aload_n 0, 1) := by decide +kernel
theorem dc_Mo_proof_182 : decode bc_Mo_proof 182 = .ok (.getfield 41, 3) := by decide +kernel
theorem dc_Mo_proof_185 : decode bc_Mo_proof 185 = .ok (.aload_n 0, 1) := by decide +kernel
theorem dc_Mo_proof_186 : decode bc_Mo_proof 186 = .ok (.getfield 143, 3) := by decide +kernel
theorem dc_Mo_proof_189 : decode bc_Mo_proof 189 = .ok (.aload_n 0, 1) := by decide +kernel
theorem dc_Mo_proof_190 : decode bc_Mo_proof 190 = .ok (.getfield 122, 3) := by decide +kernel
theorem dc_Mo_proof_193 : decode bc_Mo_proof 193 = .ok (.iastore, 1) := by decide +kernel
theorem dc_Mo_proof_194 : decode bc_Mo_proof 194 = .ok (.aload_n 0, 1) := by decide +kernel
theorem dc_Mo_proof_195 : decode bc_Mo_proof 195 = .ok (.getfield 32, 3) := by decide +kernel
theorem dc_Mo_proof_198 : decode bc_Mo_proof 198 = .ok (.aload_n 0, 1) := by decide +kernel
theorem dc_Mo_proof_199 : decode bc_Mo_proof 199 = .ok (.getfield 122, 3) := by decide +kernel
theorem dc_Mo_proof_202 : decode bc_Mo_proof 202 = .ok (.iconst 1, 1) := by decide +kernel
theorem dc_Mo_proof_203 : decode bc_Mo_proof 203 = .ok (.bastore, 1) := by decide +kernel
theorem dc_Mo_proof_204 : decode bc_Mo_proof 204 = .ok (.aload_n 0, 1) := by decide +kernel
theorem dc_Mo_proof_205 : decode bc_Mo_proof 205 = .ok (.aload_n 0, 1) := by decide +kernel
theorem dc_Mo_proof_206 : decode bc_Mo_proof 206 = .ok (.getfield 26, 3) := by decide +kernel
theorem dc_Mo_proof_209 : decode bc_Mo_proof 209 = .ok (.aload_n 0, 1) := by decide +kernel
theorem dc_Mo_proof_210 : decode bc_Mo_proof 210 = .ok (.getfield 122, 3) := by decide +kernel
theorem dc_Mo_proof_213 : decode bc_Mo_proof 213 = .ok (.iaload, 1) := by decide +kernel
theorem dc_Mo_proof_214 : decode bc_Mo_proof 214 = .ok (.ifCond .ne (7), 3) := by decide +kernel
theorem dc_Mo_proof_217 : decode bc_Mo_proof 217 = .ok (.iconst 1, 1) := by decide +kernel
theorem dc_Mo_proof_218 : decode bc_Mo_proof 218 = .ok (.goto (4), 3) := by decide +kernel
theorem dc_Mo_proof_221 : decode bc_Mo_proof 221 = .ok (.iconst 0, 1) := by decide +kernel
theorem dc_Mo_proof_222 : decode bc_Mo_proof 222 = .ok (.putfield 159, 3) := by decide +kernel
theorem dc_Mo_proof_225 : decode bc_Mo_proof 225 = .ok (.iinc 3 (1), 3) := by decide +kernel
theorem dc_Mo_proof_228 : decode bc_Mo_proof 228 = .ok (.goto (-145), 3) := by decide +kernel
theorem dc_Mo_proof_231 : decode bc_Mo_proof 231 = .ok (.aload_n 0, 1) := by decide +kernel
theorem dc_Mo_proof_232 : decode bc_Mo_proof 232 = .ok (.getfield 91, 3) := by decide +kernel
theorem dc_Mo_proof_235 : decode bc_Mo_proof 235 = .ok (.ireturn, 1) := by decide +kernel
set_option maxHeartbeats 4000000 in
set_option maxRecDepth 100000 in
theorem ct_Mo_formula (l : Launch) (D : va_G) (cI cZ : ClassId) (sz : Nat) (o : Nat) (mth : Nat) (mty : Nat) (x0 : Nat) (mat : Nat) (mfr : Nat) (mto : Nat) (mgd : Bool) (mrd : Nat) (x1 : Nat) (x2 : Nat) (x3 : Nat) (mhf : Bool) (mhp : Bool) (mcl : Bool) (mck : Bool) (mba : Nat) (mct : Nat) (x4 : Nat) (x5 : Nat) (x6 : Nat) (x7 : Nat) (x8 : Nat) (mst : Nat) (x9 : Nat) (x10 : Nat) (x11 : Nat) (x12 : Nat) (mtr : Nat) (mrs : Nat) (x13 : Nat) (x14 : Nat) (x15 : Nat) (x16 : Nat) (mwr : Nat) (x17 : Nat) (mfo : Nat) (t : Nat → Nat) (rz : Nat → Nat) (rl : Nat → Int32) (rd : Nat → Bool) (fs : Nat → Nat) (fz : Nat → Nat) (fl : Nat → Int32) (gz : Nat → Nat) (gs : Nat → Nat) (gl : Nat → Int32) (FF : pt_F6) (hty : mty ≤ 250) (ht : ∀ j, t j < 256) (hFF : pt_fml t mty gz gs gl = FF) (hF : FF.1 = true) : Met l yn_Mo_formula (Cond.code yn_Mo_formula bc_Mo_formula 2 (some .int) :: kx_all) ({ frames := 4, cells := 0, slots := 0, locals := 86 } : Room) (kp [.ref o] D cI cZ [mo_c o mth mty x0 mat mfr mto mgd mrd x1 x2 x3 mhf mhp mcl mck mba mct x4 x5 x6 x7 x8 mst x9 x10 x11 x12 mtr mrs x13 x14 x15 x16 mwr x17 mfo, ar_n cI x0 250 t, ar_n cI x1 16 rz, ar_i cI x2 128 rl, ar_b cZ x3 16 rd, ar_n cI x4 33 fs, ar_n cI x5 33 fz, ar_i cI x6 264 fl] sz) (kw_e (some (.int (nI FF.2.1))) D kc_l (fun ex : Nat × Nat × Nat × Bool × (Nat → Nat) × (Nat → Int32) × (Nat → Bool) => [mo_c o 0 0 x0 ex.1 ex.2.1 ex.2.2.1 ex.2.2.2.1 FF.2.1 x1 x2 x3 true false mcl false FF.2.1 FF.2.1 x4 x5 x6 x7 x8 0 x9 x10 x11 x12 mtr mrs x13 x14 x15 x16 mwr x17 mfo, ar_n cI x0 250 t, ar_n cI x1 16 ex.2.2.2.2.1, ar_i cI x2 128 ex.2.2.2.2.2.1, ar_b cZ x3 16 ex.2.2.2.2.2.2, ar_n cI x4 33 ((pt_cps FF.2.2.2.1 FF.2.2.2.2.1 FF.2.2.2.2.2 fz fs fl FF.2.1).2.1), ar_n cI x5 33 ((pt_cps FF.2.2.2.1 FF.2.2.2.2.1 FF.2.2.2.2.2 fz fs fl FF.2.1).1), ar_i cI x6 264 ((pt_cps FF.2.2.2.1 FF.2.2.2.2.1 FF.2.2.2.2.2 fz fs fl FF.2.1).2.2)]) (va_A [mo_c o mth mty x0 mat mfr mto mgd mrd x1 x2 x3 mhf mhp mcl mck mba mct x4 x5 x6 x7 x8 mst x9 x10 x11 x12 mtr mrs x13 x14 x15 x16 mwr x17 mfo, ar_n cI x0 250 t, ar_n cI x1 16 rz, ar_i cI x2 128 rl, ar_b cZ x3 16 rd, ar_n cI x4 33 fs, ar_n cI x5 33 fz, ar_i cI x6 264 fl] sz)) 0 0 (va_A [mo_c o mth mty x0 mat mfr mto mgd mrd x1 x2 x3 mhf mhp mcl mck mba mct x4 x5 x6 x7 x8 mst x9 x10 x11 x12 mtr mrs x13 x14 x15 x16 mwr x17 mfo, ar_n cI x0 250 t, ar_n cI x1 16 rz, ar_i cI x2 128 rl, ar_b cZ x3 16 rd, ar_n cI x4 33 fs, ar_n cI x5 33 fz, ar_i cI x6 264 fl] sz) := by
  refine kx_metE (by decide) (Nat.le_of_ble_eq_true rfl) ?_
  intro p e s m below meth c ls A hx hb hr hml hts hown hlocks hin hA hP hK hD hN hl hS
  have hown : s.vm.findClass rn_Mo = some m.cls := hown
  have hl : lv_has ls 2 [(0, .ref o)] := hl
  obtain ⟨hrk, hr16, -⟩ := fml_rk hFF hF
  refine lv_aload_n hx hb dc_Mo_formula_0 rfl (lv_at hl 0 rfl) ?_
  refine lv_iconst (v := nI 0) hx hb dc_Mo_formula_1 (by decide +kernel) ?_
  refine va_put (ci := 10) (v := .int (nI 0)) (ty := .int) (C := rn_Mo) (T := fd_Mo) (N := 36) hx hb hts in_Mo ty_Mo tk_Mo nm_Mo hown hK hP hD hS 0 rfl rfl 0 (by decide) (hts _ wd_746) (fun _ h9 => h9) rfl (by decide +kernel) rfl rfl (Nat.le_of_ble_eq_true rfl) dc_Mo_formula_2 (fun H locs hP hD hS => ?_)
  have hP : va_P D kc_l [mo_c o 0 mty x0 mat mfr mto mgd mrd x1 x2 x3 mhf mhp mcl mck mba mct x4 x5 x6 x7 x8 mst x9 x10 x11 x12 mtr mrs x13 x14 x15 x16 mwr x17 mfo, ar_n cI x0 250 t, ar_n cI x1 16 rz, ar_i cI x2 128 rl, ar_b cZ x3 16 rd, ar_n cI x4 33 fs, ar_n cI x5 33 fz, ar_i cI x6 264 fl] H := hP
  have hD : va_D A [mo_c o 0 mty x0 mat mfr mto mgd mrd x1 x2 x3 mhf mhp mcl mck mba mct x4 x5 x6 x7 x8 mst x9 x10 x11 x12 mtr mrs x13 x14 x15 x16 mwr x17 mfo, ar_n cI x0 250 t, ar_n cI x1 16 rz, ar_i cI x2 128 rl, ar_b cZ x3 16 rd, ar_n cI x4 33 fs, ar_n cI x5 33 fz, ar_i cI x6 264 fl] := hD
  refine lv_aload_n hx hb dc_Mo_formula_5 rfl (lv_at hl 0 rfl) ?_
  refine kw_callE1 (wr := [ar_n cI x4 33 fs, ar_n cI x5 33 fz, ar_i cI x6 264 fl]) (w1 := fun ex_1 : { e : Nat × Nat × Nat × Bool × Nat × (Nat → Nat) × (Nat → Int32) × (Nat → Bool) // (pt_fml t mty gz gs gl).1 = true → e.2.2.2.2.1 = (pt_fml t mty gz gs gl).2.1 ∧ pt_rel (pt_fml t mty gz gs gl).2.1 (pt_fml t mty gz gs gl).2.2.2.1 (pt_fml t mty gz gs gl).2.2.2.2.2 e.2.2.2.2.2.1 e.2.2.2.2.2.2.1 } => [mo_c o 0 mty x0 ex_1.1.1 ex_1.1.2.1 ex_1.1.2.2.1 ex_1.1.2.2.2.1 ex_1.1.2.2.2.2.1 x1 x2 x3 mhf mhp mcl mck mba mct x4 x5 x6 x7 x8 mst x9 x10 x11 x12 mtr mrs x13 x14 x15 x16 mwr x17 mfo, ar_n cI x0 250 t, ar_n cI x1 16 ex_1.1.2.2.2.2.2.1, ar_i cI x2 128 ex_1.1.2.2.2.2.2.2.1, ar_b cZ x3 16 ex_1.1.2.2.2.2.2.2.2]) (ws' := fun ex_1 : { e : Nat × Nat × Nat × Bool × Nat × (Nat → Nat) × (Nat → Int32) × (Nat → Bool) // (pt_fml t mty gz gs gl).1 = true → e.2.2.2.2.1 = (pt_fml t mty gz gs gl).2.1 ∧ pt_rel (pt_fml t mty gz gs gl).2.1 (pt_fml t mty gz gs gl).2.2.2.1 (pt_fml t mty gz gs gl).2.2.2.2.2 e.2.2.2.2.2.1 e.2.2.2.2.2.2.1 } => [mo_c o 0 mty x0 ex_1.1.1 ex_1.1.2.1 ex_1.1.2.2.1 ex_1.1.2.2.2.1 ex_1.1.2.2.2.2.1 x1 x2 x3 mhf mhp mcl mck mba mct x4 x5 x6 x7 x8 mst x9 x10 x11 x12 mtr mrs x13 x14 x15 x16 mwr x17 mfo, ar_n cI x0 250 t, ar_n cI x1 16 ex_1.1.2.2.2.2.2.1, ar_i cI x2 128 ex_1.1.2.2.2.2.2.2.1, ar_b cZ x3 16 ex_1.1.2.2.2.2.2.2.2, ar_n cI x4 33 fs, ar_n cI x5 33 fz, ar_i cI x6 264 fl]) (va_runV (As := []) (rest := []) ⟨hx, hb, hml, hown, hts⟩ (ct_Mo_readFormula l D cI cZ _ o 0 mty x0 mat mfr mto mgd mrd x1 x2 x3 mhf mhp mcl mck mba mct x4 x5 x6 x7 x8 mst x9 x10 x11 x12 mtr mrs x13 x14 x15 x16 mwr x17 mfo t rz rl rd gz gs gl (hty) (ht)) (cwV 0 hts (kx_gV wd_872 wd_874 (kx_sel (q := (yn_Mo_readFormula, 36)) (List.mem_append_left _ (List.mem_of_getElem? (i := 12) rfl))) wd_9 wd_875) rfl rfl rfl ⟨rfl, yd_Mo_readFormula⟩ ⟨Nat.le_of_ble_eq_true rfl, Nat.le_of_ble_eq_true rfl⟩) (kp_V (q0 := 0) (ci := 10) hP hD hK hN [0, 1, 2, 3, 4] rfl rfl rfl rfl rfl) rfl rfl hl.1 rfl (lv_room (Nat.le_of_ble_eq_true rfl)) dc_Mo_formula_6 ⟨Nat.le_of_ble_eq_true rfl, Nat.le_of_ble_eq_true rfl⟩) hP hD hS hA [0, 1, 2, 3, 4] [5, 6, 7] [3, 4, 5, 6, 7, 0, 1, 2] rfl rfl rfl (by decide) (fun _ => rfl) rfl (fun ex_1 H locs hP hD hS => ?_)
  obtain ⟨⟨e1_1, e1_2, e1_3, e1_4, e1_5, e1_6, e1_7, e1_8⟩, hex_1⟩ := ex_1
  dsimp only at hP hD hex_1
  rw [hFF] at hex_1
  obtain ⟨hrd, hrel⟩ := hex_1 hF
  subst hrd
  refine kn_top (y := kb_i true) (by rw [hFF, hF]) ?_
  refine kb_if_ne hx hb dc_Mo_formula_9 rfl (fun hc9 => ?_) (fun hc9 => ?_)
  · refine lv_aload_n hx hb dc_Mo_formula_18 rfl (lv_at hl 0 rfl) ?_
    refine lv_iconst (v := nI 0) hx hb dc_Mo_formula_19 (by decide +kernel) ?_
    refine va_put (ci := 10) (v := .int (nI 0)) (ty := .int) (C := rn_Mo) (T := fd_Mo) (N := 36) hx hb hts in_Mo ty_Mo tk_Mo nm_Mo hown hK hP hD hS 0 rfl rfl 1 (by decide) (hts _ wd_747) (fun _ h9 => h9) rfl (by decide +kernel) rfl rfl (Nat.le_of_ble_eq_true rfl) dc_Mo_formula_20 (fun H locs hP hD hS => ?_)
    have hP : va_P D kc_l [mo_c o 0 0 x0 e1_1 e1_2 e1_3 e1_4 FF.2.1 x1 x2 x3 mhf mhp mcl mck mba mct x4 x5 x6 x7 x8 mst x9 x10 x11 x12 mtr mrs x13 x14 x15 x16 mwr x17 mfo, ar_n cI x0 250 t, ar_n cI x1 16 e1_6, ar_i cI x2 128 e1_7, ar_b cZ x3 16 e1_8, ar_n cI x4 33 fs, ar_n cI x5 33 fz, ar_i cI x6 264 fl] H := hP
    have hD : va_D A [mo_c o 0 0 x0 e1_1 e1_2 e1_3 e1_4 FF.2.1 x1 x2 x3 mhf mhp mcl mck mba mct x4 x5 x6 x7 x8 mst x9 x10 x11 x12 mtr mrs x13 x14 x15 x16 mwr x17 mfo, ar_n cI x0 250 t, ar_n cI x1 16 e1_6, ar_i cI x2 128 e1_7, ar_b cZ x3 16 e1_8, ar_n cI x4 33 fs, ar_n cI x5 33 fz, ar_i cI x6 264 fl] := hD
    refine lv_aload_n hx hb dc_Mo_formula_23 rfl (lv_at hl 0 rfl) ?_
    refine lv_iconst (v := nI 1) hx hb dc_Mo_formula_24 (by decide +kernel) ?_
    refine kn_top (y := kb_i true) (by decide +kernel) ?_
    refine va_put (ci := 10) (v := .int (kb_i true)) (ty := .boolean) (C := rn_Mo) (T := fd_Mo) (N := 36) hx hb hts in_Mo ty_Mo tk_Mo nm_Mo hown hK hP hD hS 0 rfl rfl 11 (by decide) (hts _ wd_757) (fun _ h9 => h9) rfl (by decide +kernel) (kb_nar _) (kb_fit _) (Nat.le_of_ble_eq_true rfl) dc_Mo_formula_25 (fun H locs hP hD hS => ?_)
    have hP : va_P D kc_l [mo_c o 0 0 x0 e1_1 e1_2 e1_3 e1_4 FF.2.1 x1 x2 x3 true mhp mcl mck mba mct x4 x5 x6 x7 x8 mst x9 x10 x11 x12 mtr mrs x13 x14 x15 x16 mwr x17 mfo, ar_n cI x0 250 t, ar_n cI x1 16 e1_6, ar_i cI x2 128 e1_7, ar_b cZ x3 16 e1_8, ar_n cI x4 33 fs, ar_n cI x5 33 fz, ar_i cI x6 264 fl] H := hP
    have hD : va_D A [mo_c o 0 0 x0 e1_1 e1_2 e1_3 e1_4 FF.2.1 x1 x2 x3 true mhp mcl mck mba mct x4 x5 x6 x7 x8 mst x9 x10 x11 x12 mtr mrs x13 x14 x15 x16 mwr x17 mfo, ar_n cI x0 250 t, ar_n cI x1 16 e1_6, ar_i cI x2 128 e1_7, ar_b cZ x3 16 e1_8, ar_n cI x4 33 fs, ar_n cI x5 33 fz, ar_i cI x6 264 fl] := hD
    refine lv_aload_n hx hb dc_Mo_formula_28 rfl (lv_at hl 0 rfl) ?_
    refine lv_iconst (v := nI 0) hx hb dc_Mo_formula_29 (by decide +kernel) ?_
    refine kn_top (y := kb_i false) (by decide +kernel) ?_
    refine va_put (ci := 10) (v := .int (kb_i false)) (ty := .boolean) (C := rn_Mo) (T := fd_Mo) (N := 36) hx hb hts in_Mo ty_Mo tk_Mo nm_Mo hown hK hP hD hS 0 rfl rfl 12 (by decide) (hts _ wd_758) (fun _ h9 => h9) rfl (by decide +kernel) (kb_nar _) (kb_fit _) (Nat.le_of_ble_eq_true rfl) dc_Mo_formula_30 (fun H locs hP hD hS => ?_)
    have hP : va_P D kc_l [mo_c o 0 0 x0 e1_1 e1_2 e1_3 e1_4 FF.2.1 x1 x2 x3 true false mcl mck mba mct x4 x5 x6 x7 x8 mst x9 x10 x11 x12 mtr mrs x13 x14 x15 x16 mwr x17 mfo, ar_n cI x0 250 t, ar_n cI x1 16 e1_6, ar_i cI x2 128 e1_7, ar_b cZ x3 16 e1_8, ar_n cI x4 33 fs, ar_n cI x5 33 fz, ar_i cI x6 264 fl] H := hP
    have hD : va_D A [mo_c o 0 0 x0 e1_1 e1_2 e1_3 e1_4 FF.2.1 x1 x2 x3 true false mcl mck mba mct x4 x5 x6 x7 x8 mst x9 x10 x11 x12 mtr mrs x13 x14 x15 x16 mwr x17 mfo, ar_n cI x0 250 t, ar_n cI x1 16 e1_6, ar_i cI x2 128 e1_7, ar_b cZ x3 16 e1_8, ar_n cI x4 33 fs, ar_n cI x5 33 fz, ar_i cI x6 264 fl] := hD
    refine lv_aload_n hx hb dc_Mo_formula_33 rfl (lv_at hl 0 rfl) ?_
    refine lv_iconst (v := nI 0) hx hb dc_Mo_formula_34 (by decide +kernel) ?_
    refine kn_top (y := kb_i false) (by decide +kernel) ?_
    refine va_put (ci := 10) (v := .int (kb_i false)) (ty := .boolean) (C := rn_Mo) (T := fd_Mo) (N := 36) hx hb hts in_Mo ty_Mo tk_Mo nm_Mo hown hK hP hD hS 0 rfl rfl 14 (by decide) (hts _ wd_760) (fun _ h9 => h9) rfl (by decide +kernel) (kb_nar _) (kb_fit _) (Nat.le_of_ble_eq_true rfl) dc_Mo_formula_35 (fun H locs hP hD hS => ?_)
    have hP : va_P D kc_l [mo_c o 0 0 x0 e1_1 e1_2 e1_3 e1_4 FF.2.1 x1 x2 x3 true false mcl false mba mct x4 x5 x6 x7 x8 mst x9 x10 x11 x12 mtr mrs x13 x14 x15 x16 mwr x17 mfo, ar_n cI x0 250 t, ar_n cI x1 16 e1_6, ar_i cI x2 128 e1_7, ar_b cZ x3 16 e1_8, ar_n cI x4 33 fs, ar_n cI x5 33 fz, ar_i cI x6 264 fl] H := hP
    have hD : va_D A [mo_c o 0 0 x0 e1_1 e1_2 e1_3 e1_4 FF.2.1 x1 x2 x3 true false mcl false mba mct x4 x5 x6 x7 x8 mst x9 x10 x11 x12 mtr mrs x13 x14 x15 x16 mwr x17 mfo, ar_n cI x0 250 t, ar_n cI x1 16 e1_6, ar_i cI x2 128 e1_7, ar_b cZ x3 16 e1_8, ar_n cI x4 33 fs, ar_n cI x5 33 fz, ar_i cI x6 264 fl] := hD
    refine lv_aload_n hx hb dc_Mo_formula_38 rfl (lv_at hl 0 rfl) ?_
    refine lv_iconst (v := nI 0) hx hb dc_Mo_formula_39 (by decide +kernel) ?_
    refine va_put (ci := 10) (v := .int (nI 0)) (ty := .int) (C := rn_Mo) (T := fd_Mo) (N := 36) hx hb hts in_Mo ty_Mo tk_Mo nm_Mo hown hK hP hD hS 0 rfl rfl 16 (by decide) (hts _ wd_762) (fun _ h9 => h9) rfl (by decide +kernel) rfl rfl (Nat.le_of_ble_eq_true rfl) dc_Mo_formula_40 (fun H locs hP hD hS => ?_)
    have hP : va_P D kc_l [mo_c o 0 0 x0 e1_1 e1_2 e1_3 e1_4 FF.2.1 x1 x2 x3 true false mcl false mba 0 x4 x5 x6 x7 x8 mst x9 x10 x11 x12 mtr mrs x13 x14 x15 x16 mwr x17 mfo, ar_n cI x0 250 t, ar_n cI x1 16 e1_6, ar_i cI x2 128 e1_7, ar_b cZ x3 16 e1_8, ar_n cI x4 33 fs, ar_n cI x5 33 fz, ar_i cI x6 264 fl] H := hP
    have hD : va_D A [mo_c o 0 0 x0 e1_1 e1_2 e1_3 e1_4 FF.2.1 x1 x2 x3 true false mcl false mba 0 x4 x5 x6 x7 x8 mst x9 x10 x11 x12 mtr mrs x13 x14 x15 x16 mwr x17 mfo, ar_n cI x0 250 t, ar_n cI x1 16 e1_6, ar_i cI x2 128 e1_7, ar_b cZ x3 16 e1_8, ar_n cI x4 33 fs, ar_n cI x5 33 fz, ar_i cI x6 264 fl] := hD
    refine lv_aload_n hx hb dc_Mo_formula_43 rfl (lv_at hl 0 rfl) ?_
    refine lv_iconst (v := nI 0) hx hb dc_Mo_formula_44 (by decide +kernel) ?_
    refine va_put (ci := 10) (v := .int (nI 0)) (ty := .int) (C := rn_Mo) (T := fd_Mo) (N := 36) hx hb hts in_Mo ty_Mo tk_Mo nm_Mo hown hK hP hD hS 0 rfl rfl 22 (by decide) (hts _ wd_768) (fun _ h9 => h9) rfl (by decide +kernel) rfl rfl (Nat.le_of_ble_eq_true rfl) dc_Mo_formula_45 (fun H locs hP hD hS => ?_)
    have hP : va_P D kc_l [mo_c o 0 0 x0 e1_1 e1_2 e1_3 e1_4 FF.2.1 x1 x2 x3 true false mcl false mba 0 x4 x5 x6 x7 x8 0 x9 x10 x11 x12 mtr mrs x13 x14 x15 x16 mwr x17 mfo, ar_n cI x0 250 t, ar_n cI x1 16 e1_6, ar_i cI x2 128 e1_7, ar_b cZ x3 16 e1_8, ar_n cI x4 33 fs, ar_n cI x5 33 fz, ar_i cI x6 264 fl] H := hP
    have hD : va_D A [mo_c o 0 0 x0 e1_1 e1_2 e1_3 e1_4 FF.2.1 x1 x2 x3 true false mcl false mba 0 x4 x5 x6 x7 x8 0 x9 x10 x11 x12 mtr mrs x13 x14 x15 x16 mwr x17 mfo, ar_n cI x0 250 t, ar_n cI x1 16 e1_6, ar_i cI x2 128 e1_7, ar_b cZ x3 16 e1_8, ar_n cI x4 33 fs, ar_n cI x5 33 fz, ar_i cI x6 264 fl] := hD
    refine lv_iconst (v := nI 0) hx hb dc_Mo_formula_48 (by decide +kernel) ?_
    refine lv_istore_n (lv' := [(1, .int (nI 0)), (0, .ref o)]) hx hb dc_Mo_formula_49 rfl hl (by decide) rfl (fun ls hl => ?_)
    have lp_50 : ∀ (K : Nat) (k : Nat) (H : Heap) (locs : List Loc) (ls : Array Slot), FF.2.1 - k < K → va_P D kc_l [mo_c o 0 0 x0 e1_1 e1_2 e1_3 e1_4 FF.2.1 x1 x2 x3 true false mcl false mba k x4 x5 x6 x7 x8 0 x9 x10 x11 x12 mtr mrs x13 x14 x15 x16 mwr x17 mfo, ar_n cI x0 250 t, ar_n cI x1 16 e1_6, ar_i cI x2 128 e1_7, ar_b cZ x3 16 e1_8, ar_n cI x4 33 ((pt_cps FF.2.2.2.1 FF.2.2.2.2.1 FF.2.2.2.2.2 fz fs fl k).2.1), ar_n cI x5 33 ((pt_cps FF.2.2.2.1 FF.2.2.2.2.1 FF.2.2.2.2.2 fz fs fl k).1), ar_i cI x6 264 ((pt_cps FF.2.2.2.1 FF.2.2.2.2.1 FF.2.2.2.2.2 fz fs fl k).2.2)] H → va_D A [mo_c o 0 0 x0 e1_1 e1_2 e1_3 e1_4 FF.2.1 x1 x2 x3 true false mcl false mba k x4 x5 x6 x7 x8 0 x9 x10 x11 x12 mtr mrs x13 x14 x15 x16 mwr x17 mfo, ar_n cI x0 250 t, ar_n cI x1 16 e1_6, ar_i cI x2 128 e1_7, ar_b cZ x3 16 e1_8, ar_n cI x4 33 ((pt_cps FF.2.2.2.1 FF.2.2.2.2.1 FF.2.2.2.2.2 fz fs fl k).2.1), ar_n cI x5 33 ((pt_cps FF.2.2.2.1 FF.2.2.2.2.1 FF.2.2.2.2.2 fz fs fl k).1), ar_i cI x6 264 ((pt_cps FF.2.2.2.1 FF.2.2.2.2.1 FF.2.2.2.2.2 fz fs fl k).2.2)] → va_S A s.heap H locs → lv_has ls 2 [(1, .int (nI k)), (0, .ref o)] → (k ≤ FF.2.1) → W p l e ({ frames := 4, cells := 0, slots := 0, locals := 86 } : Room) s m ([.ref o] : List Value).toArray below meth c H locs 0 0 (MQ below (kw_e (some (.int (nI FF.2.1))) D kc_l (fun ex : Nat × Nat × Nat × Bool × (Nat → Nat) × (Nat → Int32) × (Nat → Bool) => [mo_c o 0 0 x0 ex.1 ex.2.1 ex.2.2.1 ex.2.2.2.1 FF.2.1 x1 x2 x3 true false mcl false FF.2.1 FF.2.1 x4 x5 x6 x7 x8 0 x9 x10 x11 x12 mtr mrs x13 x14 x15 x16 mwr x17 mfo, ar_n cI x0 250 t, ar_n cI x1 16 ex.2.2.2.2.1, ar_i cI x2 128 ex.2.2.2.2.2.1, ar_b cZ x3 16 ex.2.2.2.2.2.2, ar_n cI x4 33 ((pt_cps FF.2.2.2.1 FF.2.2.2.2.1 FF.2.2.2.2.2 fz fs fl FF.2.1).2.1), ar_n cI x5 33 ((pt_cps FF.2.2.2.1 FF.2.2.2.2.1 FF.2.2.2.2.2 fz fs fl FF.2.1).1), ar_i cI x6 264 ((pt_cps FF.2.2.2.1 FF.2.2.2.2.1 FF.2.2.2.2.2 fz fs fl FF.2.1).2.2)]) A) ([.ref o] : List Value).toArray s 0 0 A) (F0 m 50 ls []) := by
      intro K
      induction K with
      | zero =>
        intro k H locs ls hk
        exact absurd hk (Nat.not_lt_zero _)
      | succ K ih_50 =>
        intro k H locs ls hk hP hD hS hl h2
        refine lv_iload_n hx hb dc_Mo_formula_50 rfl (lv_at hl 0 rfl) ?_
        refine lv_aload_n hx hb dc_Mo_formula_51 rfl (lv_at hl 1 rfl) ?_
        refine va_get (ci := 10) (v := .int (nI FF.2.1)) (C := rn_Mo) (T := fd_Mo) (N := 36) hx hb hts in_Mo hown hK hP 0 rfl rfl 7 (by decide) (hts _ wd_753) (fun _ h9 => h9) rfl dc_Mo_formula_52 ?_
        refine kn_icmp_ge hx hb (by omega) (by omega) dc_Mo_formula_55 rfl (fun hc55 => ?_) (fun hc55 => ?_)
        · refine lv_aload_n hx hb dc_Mo_formula_69 rfl (lv_at hl 1 rfl) ?_
          refine lv_aload_n hx hb dc_Mo_formula_70 rfl (lv_at hl 1 rfl) ?_
          refine va_get (ci := 10) (v := .int (nI k)) (C := rn_Mo) (T := fd_Mo) (N := 36) hx hb hts in_Mo hown hK hP 0 rfl rfl 16 (by decide) (hts _ wd_762) (fun _ h9 => h9) rfl dc_Mo_formula_71 ?_
          refine va_put (ci := 10) (v := .int (nI k)) (ty := .int) (C := rn_Mo) (T := fd_Mo) (N := 36) hx hb hts in_Mo ty_Mo tk_Mo nm_Mo hown hK hP hD hS 0 rfl rfl 15 (by decide) (hts _ wd_761) (fun _ h9 => h9) rfl (by decide +kernel) rfl rfl (Nat.le_of_ble_eq_true rfl) dc_Mo_formula_74 (fun H locs hP hD hS => ?_)
          have hP : va_P D kc_l [mo_c o 0 0 x0 e1_1 e1_2 e1_3 e1_4 FF.2.1 x1 x2 x3 true false mcl false k k x4 x5 x6 x7 x8 0 x9 x10 x11 x12 mtr mrs x13 x14 x15 x16 mwr x17 mfo, ar_n cI x0 250 t, ar_n cI x1 16 e1_6, ar_i cI x2 128 e1_7, ar_b cZ x3 16 e1_8, ar_n cI x4 33 ((pt_cps FF.2.2.2.1 FF.2.2.2.2.1 FF.2.2.2.2.2 fz fs fl k).2.1), ar_n cI x5 33 ((pt_cps FF.2.2.2.1 FF.2.2.2.2.1 FF.2.2.2.2.2 fz fs fl k).1), ar_i cI x6 264 ((pt_cps FF.2.2.2.1 FF.2.2.2.2.1 FF.2.2.2.2.2 fz fs fl k).2.2)] H := hP
          have hD : va_D A [mo_c o 0 0 x0 e1_1 e1_2 e1_3 e1_4 FF.2.1 x1 x2 x3 true false mcl false k k x4 x5 x6 x7 x8 0 x9 x10 x11 x12 mtr mrs x13 x14 x15 x16 mwr x17 mfo, ar_n cI x0 250 t, ar_n cI x1 16 e1_6, ar_i cI x2 128 e1_7, ar_b cZ x3 16 e1_8, ar_n cI x4 33 ((pt_cps FF.2.2.2.1 FF.2.2.2.2.1 FF.2.2.2.2.2 fz fs fl k).2.1), ar_n cI x5 33 ((pt_cps FF.2.2.2.1 FF.2.2.2.2.1 FF.2.2.2.2.2 fz fs fl k).1), ar_i cI x6 264 ((pt_cps FF.2.2.2.1 FF.2.2.2.2.1 FF.2.2.2.2.2 fz fs fl k).2.2)] := hD
          refine lv_aload_n hx hb dc_Mo_formula_77 rfl (lv_at hl 1 rfl) ?_
          refine va_get (ci := 10) (v := .int (nI k)) (C := rn_Mo) (T := fd_Mo) (N := 36) hx hb hts in_Mo hown hK hP 0 rfl rfl 15 (by decide) (hts _ wd_761) (fun _ h9 => h9) rfl dc_Mo_formula_78 ?_
          exact ke_iret (x := (e1_1, e1_2, e1_3, e1_4, e1_6, e1_7, e1_8)) hx hb hr hlocks hP hD hS dc_Mo_formula_81 (by rw [show k = FF.2.1 by omega]) (by rw [show k = FF.2.1 by omega])
        · obtain ⟨bb, pm, hrow⟩ := rk_rel hrk hrel (j := k) (by omega)
          refine lv_aload_n hx hb dc_Mo_formula_58 rfl (lv_at hl 1 rfl) ?_
          refine lv_iload_n hx hb dc_Mo_formula_59 rfl (lv_at hl 0 rfl) ?_
          refine kw_call0 (wr := [ar_n cI x0 250 t, ar_b cZ x3 16 e1_8]) (ws' := [mo_c o 0 0 x0 e1_1 e1_2 e1_3 e1_4 FF.2.1 x1 x2 x3 true false mcl false mba (k + 1) x4 x5 x6 x7 x8 0 x9 x10 x11 x12 mtr mrs x13 x14 x15 x16 mwr x17 mfo, ar_n cI x0 250 t, ar_n cI x1 16 e1_6, ar_i cI x2 128 e1_7, ar_b cZ x3 16 e1_8, ar_n cI x4 33 (va_up ((pt_cps FF.2.2.2.1 FF.2.2.2.2.1 FF.2.2.2.2.2 fz fs fl k).2.1) (k + 1) (FF.2.2.2.2.1 (k + 1))), ar_n cI x5 33 (va_up ((pt_cps FF.2.2.2.1 FF.2.2.2.2.1 FF.2.2.2.2.2 fz fs fl k).1) (k + 1) (e1_6 k)), ar_i cI x6 264 (va_cpy e1_7 ((pt_cps FF.2.2.2.1 FF.2.2.2.2.1 FF.2.2.2.2.2 fz fs fl k).2.2) (8 * k) (8 * (k + 1)) (e1_6 k))]) (va_runV (As := [.int (nI k)]) (rest := []) ⟨hx, hb, hml, hown, hts⟩ (ct_Mo_make l D cI cZ _ o 0 0 x0 e1_1 e1_2 e1_3 e1_4 FF.2.1 x1 x2 x3 true false mcl false mba k x4 x5 x6 x7 x8 0 x9 x10 x11 x12 mtr mrs x13 x14 x15 x16 mwr x17 mfo e1_6 e1_7 ((pt_cps FF.2.2.2.1 FF.2.2.2.2.1 FF.2.2.2.2.2 fz fs fl k).1) ((pt_cps FF.2.2.2.1 FF.2.2.2.2.1 FF.2.2.2.2.2 fz fs fl k).2.1) ((pt_cps FF.2.2.2.1 FF.2.2.2.2.1 FF.2.2.2.2.2 fz fs fl k).2.2) k bb pm (FF.2.2.2.2.1 (k + 1)) (by omega) (by omega) (hrow)) (cwV 1 hts (kx_gV wd_907 wd_909 (kx_sel (q := (yn_Mo_make, 36)) (List.mem_append_right _ (List.mem_append_left _ (List.mem_of_getElem? (i := 4) rfl)))) wd_9 wd_910) rfl rfl rfl ⟨rfl, yd_Mo_make⟩ ⟨Nat.le_of_ble_eq_true rfl, Nat.le_of_ble_eq_true rfl⟩) (kp_V (q0 := 0) (ci := 10) hP hD hK hN [0, 2, 3, 6, 5, 7] rfl rfl rfl rfl rfl) rfl rfl hl.1 rfl (lv_room (Nat.le_of_ble_eq_true rfl)) dc_Mo_formula_60 ⟨Nat.le_of_ble_eq_true rfl, Nat.le_of_ble_eq_true rfl⟩) hP hD hS hA [0, 2, 3, 6, 5, 7] [1, 4] [2, 0, 3, 4, 1, 6, 5, 7] rfl rfl rfl (by decide) rfl rfl (fun H locs hP hD hS => ?_)
          have hP : va_P D kc_l [mo_c o 0 0 x0 e1_1 e1_2 e1_3 e1_4 FF.2.1 x1 x2 x3 true false mcl false mba (k + 1) x4 x5 x6 x7 x8 0 x9 x10 x11 x12 mtr mrs x13 x14 x15 x16 mwr x17 mfo, ar_n cI x0 250 t, ar_n cI x1 16 e1_6, ar_i cI x2 128 e1_7, ar_b cZ x3 16 e1_8, ar_n cI x4 33 ((pt_cps FF.2.2.2.1 FF.2.2.2.2.1 FF.2.2.2.2.2 fz fs fl (k + 1)).2.1), ar_n cI x5 33 ((pt_cps FF.2.2.2.1 FF.2.2.2.2.1 FF.2.2.2.2.2 fz fs fl (k + 1)).1), ar_i cI x6 264 ((pt_cps FF.2.2.2.1 FF.2.2.2.2.1 FF.2.2.2.2.2 fz fs fl (k + 1)).2.2)] H := by rw [pt_cps]; dsimp only; rw [← cpy_rel hrel (by omega), ← (hrel k (by omega)).2.1]; exact hP
          have hD : va_D A [mo_c o 0 0 x0 e1_1 e1_2 e1_3 e1_4 FF.2.1 x1 x2 x3 true false mcl false mba (k + 1) x4 x5 x6 x7 x8 0 x9 x10 x11 x12 mtr mrs x13 x14 x15 x16 mwr x17 mfo, ar_n cI x0 250 t, ar_n cI x1 16 e1_6, ar_i cI x2 128 e1_7, ar_b cZ x3 16 e1_8, ar_n cI x4 33 ((pt_cps FF.2.2.2.1 FF.2.2.2.2.1 FF.2.2.2.2.2 fz fs fl (k + 1)).2.1), ar_n cI x5 33 ((pt_cps FF.2.2.2.1 FF.2.2.2.2.1 FF.2.2.2.2.2 fz fs fl (k + 1)).1), ar_i cI x6 264 ((pt_cps FF.2.2.2.1 FF.2.2.2.2.1 FF.2.2.2.2.2 fz fs fl (k + 1)).2.2)] := by rw [pt_cps]; dsimp only; rw [← cpy_rel hrel (by omega), ← (hrel k (by omega)).2.1]; exact hD
          refine lv_iinc (k := 0) (v := nI (k + 1)) (lv' := [(1, .int (nI (k + 1))), (0, .ref o)]) hx hb dc_Mo_formula_63 hl rfl (nI_1 _) (by decide) rfl (fun ls hl => ?_)
          refine lv_goto hx hb dc_Mo_formula_66 rfl ?_
          exact ih_50 _ _ _ _ (by omega) hP hD hS hl (by omega)
    exact lp_50 _ 0 _ _ _ (Nat.lt_succ_self _) hP hD hS hl (by omega)
  · exact absurd hc9 (by decide)

set_option maxHeartbeats 4000000 in
set_option maxRecDepth 100000 in
theorem ct_Mo_formula_no (l : Launch) (D : va_G) (cI cZ : ClassId) (sz : Nat) (o : Nat) (mth : Nat) (mty : Nat) (x0 : Nat) (mat : Nat) (mfr : Nat) (mto : Nat) (mgd : Bool) (mrd : Nat) (x1 : Nat) (x2 : Nat) (x3 : Nat) (mhf : Bool) (mhp : Bool) (mcl : Bool) (mck : Bool) (mba : Nat) (mct : Nat) (x4 : Nat) (x5 : Nat) (x6 : Nat) (x7 : Nat) (x8 : Nat) (mst : Nat) (x9 : Nat) (x10 : Nat) (x11 : Nat) (x12 : Nat) (mtr : Nat) (mrs : Nat) (x13 : Nat) (x14 : Nat) (x15 : Nat) (x16 : Nat) (mwr : Nat) (x17 : Nat) (mfo : Nat) (t : Nat → Nat) (rz : Nat → Nat) (rl : Nat → Int32) (rd : Nat → Bool) (gz : Nat → Nat) (gs : Nat → Nat) (gl : Nat → Int32) (FF : pt_F6) (hty : mty ≤ 250) (ht : ∀ j, t j < 256) (hFF : pt_fml t mty gz gs gl = FF) (hF : FF.1 = false) : Met l yn_Mo_formula (Cond.code yn_Mo_formula bc_Mo_formula 2 (some .int) :: kx_all) ({ frames := 4, cells := 0, slots := 0, locals := 86 } : Room) (kp [.ref o] D cI cZ [mo_c o mth mty x0 mat mfr mto mgd mrd x1 x2 x3 mhf mhp mcl mck mba mct x4 x5 x6 x7 x8 mst x9 x10 x11 x12 mtr mrs x13 x14 x15 x16 mwr x17 mfo, ar_n cI x0 250 t, ar_n cI x1 16 rz, ar_i cI x2 128 rl, ar_b cZ x3 16 rd] sz) (kw_e (some (.int (nI 0))) D kc_l (fun ex : Nat × Nat × Nat × Bool × Nat × (Nat → Nat) × (Nat → Int32) × (Nat → Bool) => [mo_c o 1 mty x0 ex.1 ex.2.1 ex.2.2.1 ex.2.2.2.1 ex.2.2.2.2.1 x1 x2 x3 mhf mhp mcl mck mba mct x4 x5 x6 x7 x8 mst x9 x10 x11 x12 mtr mrs x13 x14 x15 x16 mwr x17 mfo, ar_n cI x0 250 t, ar_n cI x1 16 ex.2.2.2.2.2.1, ar_i cI x2 128 ex.2.2.2.2.2.2.1, ar_b cZ x3 16 ex.2.2.2.2.2.2.2]) (va_A [mo_c o mth mty x0 mat mfr mto mgd mrd x1 x2 x3 mhf mhp mcl mck mba mct x4 x5 x6 x7 x8 mst x9 x10 x11 x12 mtr mrs x13 x14 x15 x16 mwr x17 mfo, ar_n cI x0 250 t, ar_n cI x1 16 rz, ar_i cI x2 128 rl, ar_b cZ x3 16 rd] sz)) 0 0 (va_A [mo_c o mth mty x0 mat mfr mto mgd mrd x1 x2 x3 mhf mhp mcl mck mba mct x4 x5 x6 x7 x8 mst x9 x10 x11 x12 mtr mrs x13 x14 x15 x16 mwr x17 mfo, ar_n cI x0 250 t, ar_n cI x1 16 rz, ar_i cI x2 128 rl, ar_b cZ x3 16 rd] sz) := by
  refine kx_metE (by decide) (Nat.le_of_ble_eq_true rfl) ?_
  intro p e s m below meth c ls A hx hb hr hml hts hown hlocks hin hA hP hK hD hN hl hS
  have hown : s.vm.findClass rn_Mo = some m.cls := hown
  have hl : lv_has ls 2 [(0, .ref o)] := hl
  refine lv_aload_n hx hb dc_Mo_formula_0 rfl (lv_at hl 0 rfl) ?_
  refine lv_iconst (v := nI 0) hx hb dc_Mo_formula_1 (by decide +kernel) ?_
  refine va_put (ci := 10) (v := .int (nI 0)) (ty := .int) (C := rn_Mo) (T := fd_Mo) (N := 36) hx hb hts in_Mo ty_Mo tk_Mo nm_Mo hown hK hP hD hS 0 rfl rfl 0 (by decide) (hts _ wd_746) (fun _ h9 => h9) rfl (by decide +kernel) rfl rfl (Nat.le_of_ble_eq_true rfl) dc_Mo_formula_2 (fun H locs hP hD hS => ?_)
  have hP : va_P D kc_l [mo_c o 0 mty x0 mat mfr mto mgd mrd x1 x2 x3 mhf mhp mcl mck mba mct x4 x5 x6 x7 x8 mst x9 x10 x11 x12 mtr mrs x13 x14 x15 x16 mwr x17 mfo, ar_n cI x0 250 t, ar_n cI x1 16 rz, ar_i cI x2 128 rl, ar_b cZ x3 16 rd] H := hP
  have hD : va_D A [mo_c o 0 mty x0 mat mfr mto mgd mrd x1 x2 x3 mhf mhp mcl mck mba mct x4 x5 x6 x7 x8 mst x9 x10 x11 x12 mtr mrs x13 x14 x15 x16 mwr x17 mfo, ar_n cI x0 250 t, ar_n cI x1 16 rz, ar_i cI x2 128 rl, ar_b cZ x3 16 rd] := hD
  refine lv_aload_n hx hb dc_Mo_formula_5 rfl (lv_at hl 0 rfl) ?_
  refine kw_callE1 (wr := []) (w1 := fun ex_1 : { e : Nat × Nat × Nat × Bool × Nat × (Nat → Nat) × (Nat → Int32) × (Nat → Bool) // (pt_fml t mty gz gs gl).1 = true → e.2.2.2.2.1 = (pt_fml t mty gz gs gl).2.1 ∧ pt_rel (pt_fml t mty gz gs gl).2.1 (pt_fml t mty gz gs gl).2.2.2.1 (pt_fml t mty gz gs gl).2.2.2.2.2 e.2.2.2.2.2.1 e.2.2.2.2.2.2.1 } => [mo_c o 0 mty x0 ex_1.1.1 ex_1.1.2.1 ex_1.1.2.2.1 ex_1.1.2.2.2.1 ex_1.1.2.2.2.2.1 x1 x2 x3 mhf mhp mcl mck mba mct x4 x5 x6 x7 x8 mst x9 x10 x11 x12 mtr mrs x13 x14 x15 x16 mwr x17 mfo, ar_n cI x0 250 t, ar_n cI x1 16 ex_1.1.2.2.2.2.2.1, ar_i cI x2 128 ex_1.1.2.2.2.2.2.2.1, ar_b cZ x3 16 ex_1.1.2.2.2.2.2.2.2]) (ws' := fun ex_1 : { e : Nat × Nat × Nat × Bool × Nat × (Nat → Nat) × (Nat → Int32) × (Nat → Bool) // (pt_fml t mty gz gs gl).1 = true → e.2.2.2.2.1 = (pt_fml t mty gz gs gl).2.1 ∧ pt_rel (pt_fml t mty gz gs gl).2.1 (pt_fml t mty gz gs gl).2.2.2.1 (pt_fml t mty gz gs gl).2.2.2.2.2 e.2.2.2.2.2.1 e.2.2.2.2.2.2.1 } => [mo_c o 0 mty x0 ex_1.1.1 ex_1.1.2.1 ex_1.1.2.2.1 ex_1.1.2.2.2.1 ex_1.1.2.2.2.2.1 x1 x2 x3 mhf mhp mcl mck mba mct x4 x5 x6 x7 x8 mst x9 x10 x11 x12 mtr mrs x13 x14 x15 x16 mwr x17 mfo, ar_n cI x0 250 t, ar_n cI x1 16 ex_1.1.2.2.2.2.2.1, ar_i cI x2 128 ex_1.1.2.2.2.2.2.2.1, ar_b cZ x3 16 ex_1.1.2.2.2.2.2.2.2]) (va_runV (As := []) (rest := []) ⟨hx, hb, hml, hown, hts⟩ (ct_Mo_readFormula l D cI cZ _ o 0 mty x0 mat mfr mto mgd mrd x1 x2 x3 mhf mhp mcl mck mba mct x4 x5 x6 x7 x8 mst x9 x10 x11 x12 mtr mrs x13 x14 x15 x16 mwr x17 mfo t rz rl rd gz gs gl (hty) (ht)) (cwV 0 hts (kx_gV wd_872 wd_874 (kx_sel (q := (yn_Mo_readFormula, 36)) (List.mem_append_left _ (List.mem_of_getElem? (i := 12) rfl))) wd_9 wd_875) rfl rfl rfl ⟨rfl, yd_Mo_readFormula⟩ ⟨Nat.le_of_ble_eq_true rfl, Nat.le_of_ble_eq_true rfl⟩) (kp_V (q0 := 0) (ci := 10) hP hD hK hN [0, 1, 2, 3, 4] rfl rfl rfl rfl rfl) rfl rfl hl.1 rfl (lv_room (Nat.le_of_ble_eq_true rfl)) dc_Mo_formula_6 ⟨Nat.le_of_ble_eq_true rfl, Nat.le_of_ble_eq_true rfl⟩) hP hD hS hA [0, 1, 2, 3, 4] [] [0, 1, 2, 3, 4] rfl rfl rfl (by decide) (fun _ => rfl) rfl (fun ex_1 H locs hP hD hS => ?_)
  obtain ⟨⟨e1_1, e1_2, e1_3, e1_4, e1_5, e1_6, e1_7, e1_8⟩, hex_1⟩ := ex_1
  dsimp only at hP hD hex_1
  rw [hFF] at hex_1
  refine kn_top (y := kb_i false) (by rw [hFF, hF]) ?_
  refine kb_if_ne hx hb dc_Mo_formula_9 rfl (fun hc9 => ?_) (fun hc9 => ?_)
  · exact absurd hc9 (by decide)
  · refine lv_aload_n hx hb dc_Mo_formula_12 rfl (lv_at hl 0 rfl) ?_
    refine lv_iconst (v := nI 1) hx hb dc_Mo_formula_13 (by decide +kernel) ?_
    refine kw_call1 (wr := [ar_n cI x0 250 t, ar_n cI x1 16 e1_6, ar_i cI x2 128 e1_7, ar_b cZ x3 16 e1_8]) (ws' := [mo_c o 1 mty x0 e1_1 e1_2 e1_3 e1_4 e1_5 x1 x2 x3 mhf mhp mcl mck mba mct x4 x5 x6 x7 x8 mst x9 x10 x11 x12 mtr mrs x13 x14 x15 x16 mwr x17 mfo, ar_n cI x0 250 t, ar_n cI x1 16 e1_6, ar_i cI x2 128 e1_7, ar_b cZ x3 16 e1_8]) (va_runV (As := [.int (nI 1)]) (rest := []) ⟨hx, hb, hml, hown, hts⟩ (ct_Mo_refuse l D cI cZ _ o 0 mty x0 e1_1 e1_2 e1_3 e1_4 e1_5 x1 x2 x3 mhf mhp mcl mck mba mct x4 x5 x6 x7 x8 mst x9 x10 x11 x12 mtr mrs x13 x14 x15 x16 mwr x17 mfo 1) (cwV 1 hts (kx_gV wd_903 wd_905 (kx_sel (q := (yn_Mo_refuse, 36)) (List.mem_append_right _ (List.mem_append_left _ (List.mem_of_getElem? (i := 3) rfl)))) wd_9 wd_906) rfl rfl rfl ⟨rfl, yd_Mo_refuse⟩ ⟨Nat.le_of_ble_eq_true rfl, Nat.le_of_ble_eq_true rfl⟩) (kp_V (q0 := 0) (ci := 10) hP hD hK hN [0] rfl rfl rfl rfl rfl) rfl rfl hl.1 rfl (lv_room (Nat.le_of_ble_eq_true rfl)) dc_Mo_formula_14 ⟨Nat.le_of_ble_eq_true rfl, Nat.le_of_ble_eq_true rfl⟩) hP hD hS hA [0] [1, 2, 3, 4] [4, 0, 1, 2, 3] rfl rfl rfl (by decide) rfl rfl (fun H locs hP hD hS => ?_)
    exact ke_iret (x := (e1_1, e1_2, e1_3, e1_4, e1_5, e1_6, e1_7, e1_8)) hx hb hr hlocks hP hD hS dc_Mo_formula_17 (rfl) (rfl)

set_option maxHeartbeats 4000000 in
set_option maxRecDepth 100000 in
theorem ct_Mo_proof_c (l : Launch) (D : va_G) (cI cZ : ClassId) (sz : Nat) (o : Nat) (mth : Nat) (mty : Nat) (x0 : Nat) (mat : Nat) (mfr : Nat) (mto : Nat) (mgd : Bool) (mrd : Nat) (x1 : Nat) (x2 : Nat) (x3 : Nat) (mhf : Bool) (mhp : Bool) (mcl : Bool) (mck : Bool) (mba : Nat) (mct : Nat) (x4 : Nat) (x5 : Nat) (x6 : Nat) (x7 : Nat) (x8 : Nat) (mst : Nat) (x9 : Nat) (x10 : Nat) (x11 : Nat) (x12 : Nat) (mtr : Nat) (mrs : Nat) (x13 : Nat) (x14 : Nat) (x15 : Nat) (x16 : Nat) (mwr : Nat) (x17 : Nat) (mfo : Nat) (t : Nat → Nat) (rz : Nat → Nat) (rl : Nat → Int32) (rd : Nat → Bool) (fs : Nat → Nat) (fz : Nat → Nat) (fl : Nat → Int32) (lb : Nat → Bool) (ad : Nat → Bool) (nu : Nat → Nat) (gz : Nat → Nat) (gs : Nat → Nat) (gl : Nat → Int32) (dd : Nat → Bool) (FF : pt_Y) (dl : Nat → Bool) (SS : pt_T) (hmf : mhf = true) (hty : mty ≤ 250) (ht : ∀ j, t j < 256) (hFF : pt_prf t mty 16 0 0 gz gs gl dd = FF) (hF : FF.1 = true) (hb16 : mba ≤ 16) (h16 : ∀ j, fs j < 65536) (hSS : pt_set FF.2.2.1 FF.2.2.2.1 FF.2.2.2.2.1 FF.2.2.2.2.2 FF.2.1 1 (2 ^ (mba + 1) - 2) mba fz fs fl 0 true dl nu = SS) : Met l yn_Mo_proof (Cond.code yn_Mo_proof bc_Mo_proof 4 (some .int) :: kx_all) ({ frames := 4, cells := 0, slots := 0, locals := 84 } : Room) (kp [.ref o, .int (kb_i false)] D cI cZ [mo_c o mth mty x0 mat mfr mto mgd mrd x1 x2 x3 mhf mhp mcl mck mba mct x4 x5 x6 x7 x8 mst x9 x10 x11 x12 mtr mrs x13 x14 x15 x16 mwr x17 mfo, ar_n cI x0 250 t, ar_n cI x1 16 rz, ar_i cI x2 128 rl, ar_b cZ x3 16 rd, ar_n cI x4 33 fs, ar_n cI x5 33 fz, ar_i cI x6 264 fl, ar_b cZ x7 33 lb, ar_b cZ x9 17 ad, ar_n cI x10 17 nu] sz) (kw_e (some (.int (nI FF.2.1))) D kc_l (fun ex : { e : Nat × Nat × Nat × Bool × (Nat → Nat) × (Nat → Int32) × (Nat → Bool) × (Nat → Bool) × (Nat → Bool) // ∀ i, 1 ≤ i → i ≤ SS.2.2.2.2.1 → e.2.2.2.2.2.2.2.1 i = !SS.2.2.2.2.2.2.1 i } => [mo_c o 0 0 x0 ex.1.1 ex.1.2.1 ex.1.2.2.1 ex.1.2.2.2.1 FF.2.1 x1 x2 x3 mhf true ((!SS.2.2.2.2.2.1)) false mba SS.1 x4 x5 x6 x7 x8 SS.2.2.2.2.1 x9 x10 x11 x12 mtr mrs x13 x14 x15 x16 mwr x17 mfo, ar_n cI x0 250 t, ar_n cI x1 16 ex.1.2.2.2.2.1, ar_i cI x2 128 ex.1.2.2.2.2.2.1, ar_b cZ x3 16 ex.1.2.2.2.2.2.2.1, ar_n cI x4 33 SS.2.2.1, ar_n cI x5 33 SS.2.1, ar_i cI x6 264 SS.2.2.2.1, ar_b cZ x7 33 ex.1.2.2.2.2.2.2.2.2, ar_b cZ x9 17 ex.1.2.2.2.2.2.2.2.1, ar_n cI x10 17 SS.2.2.2.2.2.2.2]) (va_A [mo_c o mth mty x0 mat mfr mto mgd mrd x1 x2 x3 mhf mhp mcl mck mba mct x4 x5 x6 x7 x8 mst x9 x10 x11 x12 mtr mrs x13 x14 x15 x16 mwr x17 mfo, ar_n cI x0 250 t, ar_n cI x1 16 rz, ar_i cI x2 128 rl, ar_b cZ x3 16 rd, ar_n cI x4 33 fs, ar_n cI x5 33 fz, ar_i cI x6 264 fl, ar_b cZ x7 33 lb, ar_b cZ x9 17 ad, ar_n cI x10 17 nu] sz)) 0 0 (va_A [mo_c o mth mty x0 mat mfr mto mgd mrd x1 x2 x3 mhf mhp mcl mck mba mct x4 x5 x6 x7 x8 mst x9 x10 x11 x12 mtr mrs x13 x14 x15 x16 mwr x17 mfo, ar_n cI x0 250 t, ar_n cI x1 16 rz, ar_i cI x2 128 rl, ar_b cZ x3 16 rd, ar_n cI x4 33 fs, ar_n cI x5 33 fz, ar_i cI x6 264 fl, ar_b cZ x7 33 lb, ar_b cZ x9 17 ad, ar_n cI x10 17 nu] sz) := by
  refine kx_metE (by decide) (Nat.le_of_ble_eq_true rfl) ?_
  intro p e s m below meth c ls A hx hb hr hml hts hown hlocks hin hA hP hK hD hN hl hS
  have hown : s.vm.findClass rn_Mo = some m.cls := hown
  have hl : lv_has ls 4 [(0, .ref o), (1, .int (kb_i false))] := hl
  obtain ⟨hrk, hr16, -⟩ := (show pt_rk FF.2.1 FF.2.2.1 FF.2.2.2.1 FF.2.2.2.2.1 ∧ FF.2.1 ≤ 16 ∧ _ by rw [← hFF]; exact prf_rk 16 0 0 gz gs gl dd rk_0)
  refine lv_aload_n hx hb dc_Mo_proof_0 rfl (lv_at hl 0 rfl) ?_
  refine lv_iconst (v := nI 0) hx hb dc_Mo_proof_1 (by decide +kernel) ?_
  refine va_put (ci := 10) (v := .int (nI 0)) (ty := .int) (C := rn_Mo) (T := fd_Mo) (N := 36) hx hb hts in_Mo ty_Mo tk_Mo nm_Mo hown hK hP hD hS 0 rfl rfl 0 (by decide) (hts _ wd_746) (fun _ h9 => h9) rfl (by decide +kernel) rfl rfl (Nat.le_of_ble_eq_true rfl) dc_Mo_proof_2 (fun H locs hP hD hS => ?_)
  have hP : va_P D kc_l [mo_c o 0 mty x0 mat mfr mto mgd mrd x1 x2 x3 mhf mhp mcl mck mba mct x4 x5 x6 x7 x8 mst x9 x10 x11 x12 mtr mrs x13 x14 x15 x16 mwr x17 mfo, ar_n cI x0 250 t, ar_n cI x1 16 rz, ar_i cI x2 128 rl, ar_b cZ x3 16 rd, ar_n cI x4 33 fs, ar_n cI x5 33 fz, ar_i cI x6 264 fl, ar_b cZ x7 33 lb, ar_b cZ x9 17 ad, ar_n cI x10 17 nu] H := hP
  have hD : va_D A [mo_c o 0 mty x0 mat mfr mto mgd mrd x1 x2 x3 mhf mhp mcl mck mba mct x4 x5 x6 x7 x8 mst x9 x10 x11 x12 mtr mrs x13 x14 x15 x16 mwr x17 mfo, ar_n cI x0 250 t, ar_n cI x1 16 rz, ar_i cI x2 128 rl, ar_b cZ x3 16 rd, ar_n cI x4 33 fs, ar_n cI x5 33 fz, ar_i cI x6 264 fl, ar_b cZ x7 33 lb, ar_b cZ x9 17 ad, ar_n cI x10 17 nu] := hD
  refine lv_aload_n hx hb dc_Mo_proof_5 rfl (lv_at hl 0 rfl) ?_
  refine va_get (ci := 10) (v := .int (kb_i mhf)) (C := rn_Mo) (T := fd_Mo) (N := 36) hx hb hts in_Mo hown hK hP 0 rfl rfl 11 (by decide) (hts _ wd_757) (fun _ h9 => h9) rfl dc_Mo_proof_6 ?_
  refine kb_if_ne hx hb dc_Mo_proof_9 rfl (fun hc9 => ?_) (fun hc9 => ?_)
  · refine lv_iload_n hx hb dc_Mo_proof_18 rfl (lv_at hl 1 rfl) ?_
    refine kb_if_eq hx hb dc_Mo_proof_19 rfl (fun hc19 => ?_) (fun hc19 => ?_)
    · refine lv_aload_n hx hb dc_Mo_proof_29 rfl (lv_at hl 0 rfl) ?_
      refine kw_callE1 (wr := [ar_n cI x4 33 fs, ar_n cI x5 33 fz, ar_i cI x6 264 fl, ar_b cZ x7 33 lb, ar_b cZ x9 17 ad, ar_n cI x10 17 nu]) (w1 := fun ex_1 : { e : Nat × Nat × Nat × Bool × Nat × (Nat → Nat) × (Nat → Int32) × (Nat → Bool) // (pt_prf t mty 16 0 0 gz gs gl dd).1 = true → e.2.2.2.2.1 = (pt_prf t mty 16 0 0 gz gs gl dd).2.1 ∧ pt_rel (pt_prf t mty 16 0 0 gz gs gl dd).2.1 (pt_prf t mty 16 0 0 gz gs gl dd).2.2.1 (pt_prf t mty 16 0 0 gz gs gl dd).2.2.2.2.1 e.2.2.2.2.2.1 e.2.2.2.2.2.2.1 ∧ ∀ i, i < (pt_prf t mty 16 0 0 gz gs gl dd).2.1 → e.2.2.2.2.2.2.2 i = (pt_prf t mty 16 0 0 gz gs gl dd).2.2.2.2.2 (i + 1) } => [mo_c o 0 mty x0 ex_1.1.1 ex_1.1.2.1 ex_1.1.2.2.1 ex_1.1.2.2.2.1 ex_1.1.2.2.2.2.1 x1 x2 x3 mhf mhp mcl mck mba mct x4 x5 x6 x7 x8 mst x9 x10 x11 x12 mtr mrs x13 x14 x15 x16 mwr x17 mfo, ar_n cI x0 250 t, ar_n cI x1 16 ex_1.1.2.2.2.2.2.1, ar_i cI x2 128 ex_1.1.2.2.2.2.2.2.1, ar_b cZ x3 16 ex_1.1.2.2.2.2.2.2.2]) (ws' := fun ex_1 : { e : Nat × Nat × Nat × Bool × Nat × (Nat → Nat) × (Nat → Int32) × (Nat → Bool) // (pt_prf t mty 16 0 0 gz gs gl dd).1 = true → e.2.2.2.2.1 = (pt_prf t mty 16 0 0 gz gs gl dd).2.1 ∧ pt_rel (pt_prf t mty 16 0 0 gz gs gl dd).2.1 (pt_prf t mty 16 0 0 gz gs gl dd).2.2.1 (pt_prf t mty 16 0 0 gz gs gl dd).2.2.2.2.1 e.2.2.2.2.2.1 e.2.2.2.2.2.2.1 ∧ ∀ i, i < (pt_prf t mty 16 0 0 gz gs gl dd).2.1 → e.2.2.2.2.2.2.2 i = (pt_prf t mty 16 0 0 gz gs gl dd).2.2.2.2.2 (i + 1) } => [mo_c o 0 mty x0 ex_1.1.1 ex_1.1.2.1 ex_1.1.2.2.1 ex_1.1.2.2.2.1 ex_1.1.2.2.2.2.1 x1 x2 x3 mhf mhp mcl mck mba mct x4 x5 x6 x7 x8 mst x9 x10 x11 x12 mtr mrs x13 x14 x15 x16 mwr x17 mfo, ar_n cI x0 250 t, ar_n cI x1 16 ex_1.1.2.2.2.2.2.1, ar_i cI x2 128 ex_1.1.2.2.2.2.2.2.1, ar_b cZ x3 16 ex_1.1.2.2.2.2.2.2.2, ar_n cI x4 33 fs, ar_n cI x5 33 fz, ar_i cI x6 264 fl, ar_b cZ x7 33 lb, ar_b cZ x9 17 ad, ar_n cI x10 17 nu]) (va_runV (As := []) (rest := []) ⟨hx, hb, hml, hown, hts⟩ (ct_Mo_readProof l D cI cZ _ o 0 mty x0 mat mfr mto mgd mrd x1 x2 x3 mhf mhp mcl mck mba mct x4 x5 x6 x7 x8 mst x9 x10 x11 x12 mtr mrs x13 x14 x15 x16 mwr x17 mfo t rz rl rd gz gs gl dd (hty) (ht)) (cwV 0 hts (kx_gV wd_926 wd_928 (kx_sel (q := (yn_Mo_readProof, 36)) (List.mem_append_right _ (List.mem_append_left _ (List.mem_of_getElem? (i := 7) rfl)))) wd_9 wd_929) rfl rfl rfl ⟨rfl, yd_Mo_readProof⟩ ⟨Nat.le_of_ble_eq_true rfl, Nat.le_of_ble_eq_true rfl⟩) (kp_V (q0 := 0) (ci := 10) hP hD hK hN [0, 1, 2, 3, 4] rfl rfl rfl rfl rfl) rfl rfl hl.1 rfl (lv_room (Nat.le_of_ble_eq_true rfl)) dc_Mo_proof_30 ⟨Nat.le_of_ble_eq_true rfl, Nat.le_of_ble_eq_true rfl⟩) hP hD hS hA [0, 1, 2, 3, 4] [5, 6, 7, 8, 9, 10] [6, 7, 8, 9, 10, 0, 1, 2, 3, 4, 5] rfl rfl rfl (by decide) (fun _ => rfl) rfl (fun ex_1 H locs hP hD hS => ?_)
      obtain ⟨⟨e1_1, e1_2, e1_3, e1_4, e1_5, e1_6, e1_7, e1_8⟩, hex_1⟩ := ex_1
      dsimp only at hP hD hex_1
      rw [hFF] at hex_1
      obtain ⟨hrd, hrel, hdd⟩ := hex_1 hF
      subst hrd
      refine kn_top (y := kb_i true) (by rw [hFF, hF]) ?_
      refine lv_istore_n (lv' := [(2, .int (kb_i true)), (0, .ref o), (1, .int (kb_i false))]) hx hb dc_Mo_proof_33 rfl hl (by decide) rfl (fun ls hl => ?_)
      refine lv_iload_n hx hb dc_Mo_proof_34 rfl (lv_at hl 0 rfl) ?_
      refine kb_if_ne hx hb dc_Mo_proof_35 rfl (fun hc35 => ?_) (fun hc35 => ?_)
      · refine lv_aload_n hx hb dc_Mo_proof_44 rfl (lv_at hl 1 rfl) ?_
        refine lv_iconst (v := nI 0) hx hb dc_Mo_proof_45 (by decide +kernel) ?_
        refine va_put (ci := 10) (v := .int (nI 0)) (ty := .int) (C := rn_Mo) (T := fd_Mo) (N := 36) hx hb hts in_Mo ty_Mo tk_Mo nm_Mo hown hK hP hD hS 0 rfl rfl 1 (by decide) (hts _ wd_747) (fun _ h9 => h9) rfl (by decide +kernel) rfl rfl (Nat.le_of_ble_eq_true rfl) dc_Mo_proof_46 (fun H locs hP hD hS => ?_)
        have hP : va_P D kc_l [mo_c o 0 0 x0 e1_1 e1_2 e1_3 e1_4 FF.2.1 x1 x2 x3 mhf mhp mcl mck mba mct x4 x5 x6 x7 x8 mst x9 x10 x11 x12 mtr mrs x13 x14 x15 x16 mwr x17 mfo, ar_n cI x0 250 t, ar_n cI x1 16 e1_6, ar_i cI x2 128 e1_7, ar_b cZ x3 16 e1_8, ar_n cI x4 33 fs, ar_n cI x5 33 fz, ar_i cI x6 264 fl, ar_b cZ x7 33 lb, ar_b cZ x9 17 ad, ar_n cI x10 17 nu] H := hP
        have hD : va_D A [mo_c o 0 0 x0 e1_1 e1_2 e1_3 e1_4 FF.2.1 x1 x2 x3 mhf mhp mcl mck mba mct x4 x5 x6 x7 x8 mst x9 x10 x11 x12 mtr mrs x13 x14 x15 x16 mwr x17 mfo, ar_n cI x0 250 t, ar_n cI x1 16 e1_6, ar_i cI x2 128 e1_7, ar_b cZ x3 16 e1_8, ar_n cI x4 33 fs, ar_n cI x5 33 fz, ar_i cI x6 264 fl, ar_b cZ x7 33 lb, ar_b cZ x9 17 ad, ar_n cI x10 17 nu] := hD
        refine lv_aload_n hx hb dc_Mo_proof_49 rfl (lv_at hl 1 rfl) ?_
        refine lv_iconst (v := nI 1) hx hb dc_Mo_proof_50 (by decide +kernel) ?_
        refine kn_top (y := kb_i true) (by decide +kernel) ?_
        refine va_put (ci := 10) (v := .int (kb_i true)) (ty := .boolean) (C := rn_Mo) (T := fd_Mo) (N := 36) hx hb hts in_Mo ty_Mo tk_Mo nm_Mo hown hK hP hD hS 0 rfl rfl 12 (by decide) (hts _ wd_758) (fun _ h9 => h9) rfl (by decide +kernel) (kb_nar _) (kb_fit _) (Nat.le_of_ble_eq_true rfl) dc_Mo_proof_51 (fun H locs hP hD hS => ?_)
        have hP : va_P D kc_l [mo_c o 0 0 x0 e1_1 e1_2 e1_3 e1_4 FF.2.1 x1 x2 x3 mhf true mcl mck mba mct x4 x5 x6 x7 x8 mst x9 x10 x11 x12 mtr mrs x13 x14 x15 x16 mwr x17 mfo, ar_n cI x0 250 t, ar_n cI x1 16 e1_6, ar_i cI x2 128 e1_7, ar_b cZ x3 16 e1_8, ar_n cI x4 33 fs, ar_n cI x5 33 fz, ar_i cI x6 264 fl, ar_b cZ x7 33 lb, ar_b cZ x9 17 ad, ar_n cI x10 17 nu] H := hP
        have hD : va_D A [mo_c o 0 0 x0 e1_1 e1_2 e1_3 e1_4 FF.2.1 x1 x2 x3 mhf true mcl mck mba mct x4 x5 x6 x7 x8 mst x9 x10 x11 x12 mtr mrs x13 x14 x15 x16 mwr x17 mfo, ar_n cI x0 250 t, ar_n cI x1 16 e1_6, ar_i cI x2 128 e1_7, ar_b cZ x3 16 e1_8, ar_n cI x4 33 fs, ar_n cI x5 33 fz, ar_i cI x6 264 fl, ar_b cZ x7 33 lb, ar_b cZ x9 17 ad, ar_n cI x10 17 nu] := hD
        refine lv_aload_n hx hb dc_Mo_proof_54 rfl (lv_at hl 1 rfl) ?_
        refine lv_iconst (v := nI 0) hx hb dc_Mo_proof_55 (by decide +kernel) ?_
        refine kn_top (y := kb_i false) (by decide +kernel) ?_
        refine va_put (ci := 10) (v := .int (kb_i false)) (ty := .boolean) (C := rn_Mo) (T := fd_Mo) (N := 36) hx hb hts in_Mo ty_Mo tk_Mo nm_Mo hown hK hP hD hS 0 rfl rfl 14 (by decide) (hts _ wd_760) (fun _ h9 => h9) rfl (by decide +kernel) (kb_nar _) (kb_fit _) (Nat.le_of_ble_eq_true rfl) dc_Mo_proof_56 (fun H locs hP hD hS => ?_)
        have hP : va_P D kc_l [mo_c o 0 0 x0 e1_1 e1_2 e1_3 e1_4 FF.2.1 x1 x2 x3 mhf true mcl false mba mct x4 x5 x6 x7 x8 mst x9 x10 x11 x12 mtr mrs x13 x14 x15 x16 mwr x17 mfo, ar_n cI x0 250 t, ar_n cI x1 16 e1_6, ar_i cI x2 128 e1_7, ar_b cZ x3 16 e1_8, ar_n cI x4 33 fs, ar_n cI x5 33 fz, ar_i cI x6 264 fl, ar_b cZ x7 33 lb, ar_b cZ x9 17 ad, ar_n cI x10 17 nu] H := hP
        have hD : va_D A [mo_c o 0 0 x0 e1_1 e1_2 e1_3 e1_4 FF.2.1 x1 x2 x3 mhf true mcl false mba mct x4 x5 x6 x7 x8 mst x9 x10 x11 x12 mtr mrs x13 x14 x15 x16 mwr x17 mfo, ar_n cI x0 250 t, ar_n cI x1 16 e1_6, ar_i cI x2 128 e1_7, ar_b cZ x3 16 e1_8, ar_n cI x4 33 fs, ar_n cI x5 33 fz, ar_i cI x6 264 fl, ar_b cZ x7 33 lb, ar_b cZ x9 17 ad, ar_n cI x10 17 nu] := hD
        refine lv_aload_n hx hb dc_Mo_proof_59 rfl (lv_at hl 1 rfl) ?_
        refine lv_iconst (v := nI 0) hx hb dc_Mo_proof_60 (by decide +kernel) ?_
        refine kn_top (y := kb_i false) (by decide +kernel) ?_
        refine va_put (ci := 10) (v := .int (kb_i false)) (ty := .boolean) (C := rn_Mo) (T := fd_Mo) (N := 36) hx hb hts in_Mo ty_Mo tk_Mo nm_Mo hown hK hP hD hS 0 rfl rfl 13 (by decide) (hts _ wd_759) (fun _ h9 => h9) rfl (by decide +kernel) (kb_nar _) (kb_fit _) (Nat.le_of_ble_eq_true rfl) dc_Mo_proof_61 (fun H locs hP hD hS => ?_)
        have hP : va_P D kc_l [mo_c o 0 0 x0 e1_1 e1_2 e1_3 e1_4 FF.2.1 x1 x2 x3 mhf true false false mba mct x4 x5 x6 x7 x8 mst x9 x10 x11 x12 mtr mrs x13 x14 x15 x16 mwr x17 mfo, ar_n cI x0 250 t, ar_n cI x1 16 e1_6, ar_i cI x2 128 e1_7, ar_b cZ x3 16 e1_8, ar_n cI x4 33 fs, ar_n cI x5 33 fz, ar_i cI x6 264 fl, ar_b cZ x7 33 lb, ar_b cZ x9 17 ad, ar_n cI x10 17 nu] H := hP
        have hD : va_D A [mo_c o 0 0 x0 e1_1 e1_2 e1_3 e1_4 FF.2.1 x1 x2 x3 mhf true false false mba mct x4 x5 x6 x7 x8 mst x9 x10 x11 x12 mtr mrs x13 x14 x15 x16 mwr x17 mfo, ar_n cI x0 250 t, ar_n cI x1 16 e1_6, ar_i cI x2 128 e1_7, ar_b cZ x3 16 e1_8, ar_n cI x4 33 fs, ar_n cI x5 33 fz, ar_i cI x6 264 fl, ar_b cZ x7 33 lb, ar_b cZ x9 17 ad, ar_n cI x10 17 nu] := hD
        refine lv_aload_n hx hb dc_Mo_proof_64 rfl (lv_at hl 1 rfl) ?_
        refine lv_aload_n hx hb dc_Mo_proof_65 rfl (lv_at hl 1 rfl) ?_
        refine va_get (ci := 10) (v := .int (nI mba)) (C := rn_Mo) (T := fd_Mo) (N := 36) hx hb hts in_Mo hown hK hP 0 rfl rfl 15 (by decide) (hts _ wd_761) (fun _ h9 => h9) rfl dc_Mo_proof_66 ?_
        refine va_put (ci := 10) (v := .int (nI mba)) (ty := .int) (C := rn_Mo) (T := fd_Mo) (N := 36) hx hb hts in_Mo ty_Mo tk_Mo nm_Mo hown hK hP hD hS 0 rfl rfl 16 (by decide) (hts _ wd_762) (fun _ h9 => h9) rfl (by decide +kernel) rfl rfl (Nat.le_of_ble_eq_true rfl) dc_Mo_proof_69 (fun H locs hP hD hS => ?_)
        have hP : va_P D kc_l [mo_c o 0 0 x0 e1_1 e1_2 e1_3 e1_4 FF.2.1 x1 x2 x3 mhf true false false mba mba x4 x5 x6 x7 x8 mst x9 x10 x11 x12 mtr mrs x13 x14 x15 x16 mwr x17 mfo, ar_n cI x0 250 t, ar_n cI x1 16 e1_6, ar_i cI x2 128 e1_7, ar_b cZ x3 16 e1_8, ar_n cI x4 33 fs, ar_n cI x5 33 fz, ar_i cI x6 264 fl, ar_b cZ x7 33 lb, ar_b cZ x9 17 ad, ar_n cI x10 17 nu] H := hP
        have hD : va_D A [mo_c o 0 0 x0 e1_1 e1_2 e1_3 e1_4 FF.2.1 x1 x2 x3 mhf true false false mba mba x4 x5 x6 x7 x8 mst x9 x10 x11 x12 mtr mrs x13 x14 x15 x16 mwr x17 mfo, ar_n cI x0 250 t, ar_n cI x1 16 e1_6, ar_i cI x2 128 e1_7, ar_b cZ x3 16 e1_8, ar_n cI x4 33 fs, ar_n cI x5 33 fz, ar_i cI x6 264 fl, ar_b cZ x7 33 lb, ar_b cZ x9 17 ad, ar_n cI x10 17 nu] := hD
        refine lv_aload_n hx hb dc_Mo_proof_72 rfl (lv_at hl 1 rfl) ?_
        refine lv_iconst (v := nI 0) hx hb dc_Mo_proof_73 (by decide +kernel) ?_
        refine va_put (ci := 10) (v := .int (nI 0)) (ty := .int) (C := rn_Mo) (T := fd_Mo) (N := 36) hx hb hts in_Mo ty_Mo tk_Mo nm_Mo hown hK hP hD hS 0 rfl rfl 22 (by decide) (hts _ wd_768) (fun _ h9 => h9) rfl (by decide +kernel) rfl rfl (Nat.le_of_ble_eq_true rfl) dc_Mo_proof_74 (fun H locs hP hD hS => ?_)
        have hP : va_P D kc_l [mo_c o 0 0 x0 e1_1 e1_2 e1_3 e1_4 FF.2.1 x1 x2 x3 mhf true false false mba mba x4 x5 x6 x7 x8 0 x9 x10 x11 x12 mtr mrs x13 x14 x15 x16 mwr x17 mfo, ar_n cI x0 250 t, ar_n cI x1 16 e1_6, ar_i cI x2 128 e1_7, ar_b cZ x3 16 e1_8, ar_n cI x4 33 fs, ar_n cI x5 33 fz, ar_i cI x6 264 fl, ar_b cZ x7 33 lb, ar_b cZ x9 17 ad, ar_n cI x10 17 nu] H := hP
        have hD : va_D A [mo_c o 0 0 x0 e1_1 e1_2 e1_3 e1_4 FF.2.1 x1 x2 x3 mhf true false false mba mba x4 x5 x6 x7 x8 0 x9 x10 x11 x12 mtr mrs x13 x14 x15 x16 mwr x17 mfo, ar_n cI x0 250 t, ar_n cI x1 16 e1_6, ar_i cI x2 128 e1_7, ar_b cZ x3 16 e1_8, ar_n cI x4 33 fs, ar_n cI x5 33 fz, ar_i cI x6 264 fl, ar_b cZ x7 33 lb, ar_b cZ x9 17 ad, ar_n cI x10 17 nu] := hD
        refine lv_aload_n hx hb dc_Mo_proof_77 rfl (lv_at hl 1 rfl) ?_
        refine kw_call0 (wr := [ar_n cI x0 250 t, ar_n cI x1 16 e1_6, ar_i cI x2 128 e1_7, ar_b cZ x3 16 e1_8, ar_n cI x4 33 fs, ar_n cI x5 33 fz, ar_i cI x6 264 fl, ar_b cZ x9 17 ad, ar_n cI x10 17 nu]) (ws' := [mo_c o 0 0 x0 e1_1 e1_2 e1_3 e1_4 FF.2.1 x1 x2 x3 mhf true false false mba mba x4 x5 x6 x7 x8 0 x9 x10 x11 x12 mtr mrs x13 x14 x15 x16 mwr x17 mfo, ar_n cI x0 250 t, ar_n cI x1 16 e1_6, ar_i cI x2 128 e1_7, ar_b cZ x3 16 e1_8, ar_n cI x4 33 fs, ar_n cI x5 33 fz, ar_i cI x6 264 fl, ar_b cZ x7 33 (pt_fst lb mba 33), ar_b cZ x9 17 ad, ar_n cI x10 17 nu]) (va_runV (As := []) (rest := []) ⟨hx, hb, hml, hown, hts⟩ (ct_Mo_first l D cI cZ _ o 0 0 x0 e1_1 e1_2 e1_3 e1_4 FF.2.1 x1 x2 x3 mhf true false false mba mba x4 x5 x6 x7 x8 0 x9 x10 x11 x12 mtr mrs x13 x14 x15 x16 mwr x17 mfo lb (by omega)) (cwV 0 hts (kx_gV wd_930 wd_932 (kx_sel (q := (yn_Mo_first, 36)) (List.mem_append_right _ (List.mem_append_left _ (List.mem_of_getElem? (i := 8) rfl)))) wd_9 wd_933) rfl rfl rfl ⟨rfl, yd_Mo_first⟩ ⟨Nat.le_of_ble_eq_true rfl, Nat.le_of_ble_eq_true rfl⟩) (kp_V (q0 := 0) (ci := 10) hP hD hK hN [0, 8] rfl rfl rfl rfl rfl) rfl rfl hl.1 rfl (lv_room (Nat.le_of_ble_eq_true rfl)) dc_Mo_proof_78 ⟨Nat.le_of_ble_eq_true rfl, Nat.le_of_ble_eq_true rfl⟩) hP hD hS hA [0, 8] [1, 2, 3, 4, 5, 6, 7, 9, 10] [9, 0, 1, 2, 3, 4, 5, 6, 10, 7, 8] rfl rfl rfl (by decide) rfl rfl (fun H locs hP hD hS => ?_)
        refine lv_iconst (v := nI 0) hx hb dc_Mo_proof_81 (by decide +kernel) ?_
        refine lv_istore_n (lv' := [(3, .int (nI 0)), (2, .int (kb_i true)), (0, .ref o), (1, .int (kb_i false))]) hx hb dc_Mo_proof_82 rfl hl (by decide) rfl (fun ls hl => ?_)
        have lp_83 : ∀ (K : Nat) (k : Nat) (lv : Nat) (n1 : Nat) (fz1 : Nat → Nat) (fs1 : Nat → Nat) (fl1 : Nat → Int32) (op1 : Bool) (dl1 : Nat → Bool) (nu1 : Nat → Nat) (cl1 : Bool) (lb1 : Nat → Bool) (ad1 : Nat → Bool) (H : Heap) (locs : List Loc) (ls : Array Slot), FF.2.1 - k < K → va_P D kc_l [mo_c o 0 0 x0 e1_1 e1_2 e1_3 e1_4 FF.2.1 x1 x2 x3 mhf true cl1 false mba n1 x4 x5 x6 x7 x8 k x9 x10 x11 x12 mtr mrs x13 x14 x15 x16 mwr x17 mfo, ar_n cI x0 250 t, ar_n cI x1 16 e1_6, ar_i cI x2 128 e1_7, ar_b cZ x3 16 e1_8, ar_n cI x4 33 fs1, ar_n cI x5 33 fz1, ar_i cI x6 264 fl1, ar_b cZ x7 33 lb1, ar_b cZ x9 17 ad1, ar_n cI x10 17 nu1] H → va_D A [mo_c o 0 0 x0 e1_1 e1_2 e1_3 e1_4 FF.2.1 x1 x2 x3 mhf true cl1 false mba n1 x4 x5 x6 x7 x8 k x9 x10 x11 x12 mtr mrs x13 x14 x15 x16 mwr x17 mfo, ar_n cI x0 250 t, ar_n cI x1 16 e1_6, ar_i cI x2 128 e1_7, ar_b cZ x3 16 e1_8, ar_n cI x4 33 fs1, ar_n cI x5 33 fz1, ar_i cI x6 264 fl1, ar_b cZ x7 33 lb1, ar_b cZ x9 17 ad1, ar_n cI x10 17 nu1] → va_S A s.heap H locs → lv_has ls 4 [(3, .int (nI k)), (2, .int (kb_i true)), (0, .ref o), (1, .int (kb_i false))] → (pt_set FF.2.2.1 FF.2.2.2.1 FF.2.2.2.2.1 FF.2.2.2.2.2 (FF.2.1 - k) (k + 1) lv n1 fz1 fs1 fl1 k op1 dl1 nu1 = SS) → (k ≤ FF.2.1) → (mba ≤ n1 ∧ n1 ≤ mba + k) → (cl1 = !op1) → (∀ j, 1 ≤ j → j ≤ 32 → lb1 j = lv.testBit j) → (∀ j, fs1 j < 65536) → (∀ i, 1 ≤ i → i ≤ k → ad1 i = !dl1 i) → W p l e ({ frames := 4, cells := 0, slots := 0, locals := 84 } : Room) s m ([.ref o, .int (kb_i false)] : List Value).toArray below meth c H locs 0 0 (MQ below (kw_e (some (.int (nI FF.2.1))) D kc_l (fun ex : { e : Nat × Nat × Nat × Bool × (Nat → Nat) × (Nat → Int32) × (Nat → Bool) × (Nat → Bool) × (Nat → Bool) // ∀ i, 1 ≤ i → i ≤ SS.2.2.2.2.1 → e.2.2.2.2.2.2.2.1 i = !SS.2.2.2.2.2.2.1 i } => [mo_c o 0 0 x0 ex.1.1 ex.1.2.1 ex.1.2.2.1 ex.1.2.2.2.1 FF.2.1 x1 x2 x3 mhf true ((!SS.2.2.2.2.2.1)) false mba SS.1 x4 x5 x6 x7 x8 SS.2.2.2.2.1 x9 x10 x11 x12 mtr mrs x13 x14 x15 x16 mwr x17 mfo, ar_n cI x0 250 t, ar_n cI x1 16 ex.1.2.2.2.2.1, ar_i cI x2 128 ex.1.2.2.2.2.2.1, ar_b cZ x3 16 ex.1.2.2.2.2.2.2.1, ar_n cI x4 33 SS.2.2.1, ar_n cI x5 33 SS.2.1, ar_i cI x6 264 SS.2.2.2.1, ar_b cZ x7 33 ex.1.2.2.2.2.2.2.2.2, ar_b cZ x9 17 ex.1.2.2.2.2.2.2.2.1, ar_n cI x10 17 SS.2.2.2.2.2.2.2]) A) ([.ref o, .int (kb_i false)] : List Value).toArray s 0 0 A) (F0 m 83 ls []) := by
          intro K
          induction K with
          | zero =>
            intro k lv n1 fz1 fs1 fl1 op1 dl1 nu1 cl1 lb1 ad1 H locs ls hk
            exact absurd hk (Nat.not_lt_zero _)
          | succ K ih_83 =>
            intro k lv n1 fz1 fs1 fl1 op1 dl1 nu1 cl1 lb1 ad1 H locs ls hk hP hD hS hl h1 h2 hn1 hcl hlb h161 had
            refine lv_iload_n hx hb dc_Mo_proof_83 rfl (lv_at hl 0 rfl) ?_
            refine lv_aload_n hx hb dc_Mo_proof_84 rfl (lv_at hl 2 rfl) ?_
            refine va_get (ci := 10) (v := .int (nI FF.2.1)) (C := rn_Mo) (T := fd_Mo) (N := 36) hx hb hts in_Mo hown hK hP 0 rfl rfl 7 (by decide) (hts _ wd_753) (fun _ h9 => h9) rfl dc_Mo_proof_85 ?_
            refine kn_icmp_ge hx hb (by omega) (by omega) dc_Mo_proof_88 rfl (fun hc88 => ?_) (fun hc88 => ?_)
            · have hend : (n1, fz1, fs1, fl1, k, op1, dl1, nu1) = SS := by rw [← h1]; exact (set_en (Or.inl (by omega))).symm
              subst hend
              refine lv_aload_n hx hb dc_Mo_proof_231 rfl (lv_at hl 2 rfl) ?_
              refine va_get (ci := 10) (v := .int (nI FF.2.1)) (C := rn_Mo) (T := fd_Mo) (N := 36) hx hb hts in_Mo hown hK hP 0 rfl rfl 7 (by decide) (hts _ wd_753) (fun _ h9 => h9) rfl dc_Mo_proof_232 ?_
              exact ke_iret (x := ⟨(e1_1, e1_2, e1_3, e1_4, e1_6, e1_7, e1_8, ad1, lb1), had⟩) hx hb hr hlocks hP hD hS dc_Mo_proof_235 (rfl) (by rw [hcl])
            · refine lv_aload_n hx hb dc_Mo_proof_91 rfl (lv_at hl 2 rfl) ?_
              refine va_get (ci := 10) (v := .int (kb_i cl1)) (C := rn_Mo) (T := fd_Mo) (N := 36) hx hb hts in_Mo hown hK hP 0 rfl rfl 13 (by decide) (hts _ wd_759) (fun _ h9 => h9) rfl dc_Mo_proof_92 ?_
              refine kb_if_ne hx hb dc_Mo_proof_95 rfl (fun hc95 => ?_) (fun hc95 => ?_)
              · have hend : (n1, fz1, fs1, fl1, k, op1, dl1, nu1) = SS := by rw [← h1]; exact (set_en (Or.inr (by cases hq : op1 with | false => rfl | true => rw [hq] at hcl; rw [hcl] at hc95; exact absurd hc95 (by decide)))).symm
                subst hend
                refine lv_aload_n hx hb dc_Mo_proof_231 rfl (lv_at hl 2 rfl) ?_
                refine va_get (ci := 10) (v := .int (nI FF.2.1)) (C := rn_Mo) (T := fd_Mo) (N := 36) hx hb hts in_Mo hown hK hP 0 rfl rfl 7 (by decide) (hts _ wd_753) (fun _ h9 => h9) rfl dc_Mo_proof_232 ?_
                exact ke_iret (x := ⟨(e1_1, e1_2, e1_3, e1_4, e1_6, e1_7, e1_8, ad1, lb1), had⟩) hx hb hr hlocks hP hD hS dc_Mo_proof_235 (rfl) (by rw [hcl])
              · have hop : op1 = true := by cases hq : op1 with
                                  | false => rw [hq] at hcl; rw [hcl] at hc95; exact absurd hc95 (by decide)
                                  | true => rfl
                obtain ⟨bb, pm, hrow⟩ := rk_rel hrk hrel (j := k) (by omega)
                rcases hrk1 : e1_8 k with _ | _
                · have hde : FF.2.2.2.2.2 (k + 1) = false := by rw [← hdd k (by omega)]; exact hrk1
                  refine lv_aload_n hx hb dc_Mo_proof_98 rfl (lv_at hl 2 rfl) ?_
                  refine lv_dup hx hb dc_Mo_proof_99 rfl ?_
                  refine va_get (ci := 10) (v := .int (nI k)) (C := rn_Mo) (T := fd_Mo) (N := 36) hx hb hts in_Mo hown hK hP 0 rfl rfl 22 (by decide) (hts _ wd_768) (fun _ h9 => h9) rfl dc_Mo_proof_100 ?_
                  refine lv_iconst (v := nI 1) hx hb dc_Mo_proof_103 (by decide +kernel) ?_
                  refine kn_iadd hx hb dc_Mo_proof_104 ?_
                  refine va_put (ci := 10) (v := .int (nI (k + 1))) (ty := .int) (C := rn_Mo) (T := fd_Mo) (N := 36) hx hb hts in_Mo ty_Mo tk_Mo nm_Mo hown hK hP hD hS 0 rfl rfl 22 (by decide) (hts _ wd_768) (fun _ h9 => h9) rfl (by decide +kernel) rfl rfl (Nat.le_of_ble_eq_true rfl) dc_Mo_proof_105 (fun H locs hP hD hS => ?_)
                  have hP : va_P D kc_l [mo_c o 0 0 x0 e1_1 e1_2 e1_3 e1_4 FF.2.1 x1 x2 x3 mhf true cl1 false mba n1 x4 x5 x6 x7 x8 (k + 1) x9 x10 x11 x12 mtr mrs x13 x14 x15 x16 mwr x17 mfo, ar_n cI x0 250 t, ar_n cI x1 16 e1_6, ar_i cI x2 128 e1_7, ar_b cZ x3 16 e1_8, ar_n cI x4 33 fs1, ar_n cI x5 33 fz1, ar_i cI x6 264 fl1, ar_b cZ x7 33 lb1, ar_b cZ x9 17 ad1, ar_n cI x10 17 nu1] H := hP
                  have hD : va_D A [mo_c o 0 0 x0 e1_1 e1_2 e1_3 e1_4 FF.2.1 x1 x2 x3 mhf true cl1 false mba n1 x4 x5 x6 x7 x8 (k + 1) x9 x10 x11 x12 mtr mrs x13 x14 x15 x16 mwr x17 mfo, ar_n cI x0 250 t, ar_n cI x1 16 e1_6, ar_i cI x2 128 e1_7, ar_b cZ x3 16 e1_8, ar_n cI x4 33 fs1, ar_n cI x5 33 fz1, ar_i cI x6 264 fl1, ar_b cZ x7 33 lb1, ar_b cZ x9 17 ad1, ar_n cI x10 17 nu1] := hD
                  refine lv_aload_n hx hb dc_Mo_proof_108 rfl (lv_at hl 2 rfl) ?_
                  refine va_get (ci := 10) (v := .ref x9) (C := rn_Mo) (T := fd_Mo) (N := 36) hx hb hts in_Mo hown hK hP 0 rfl rfl 23 (by decide) (hts _ wd_769) (fun _ h9 => h9) rfl dc_Mo_proof_109 ?_
                  refine lv_aload_n hx hb dc_Mo_proof_112 rfl (lv_at hl 2 rfl) ?_
                  refine va_get (ci := 10) (v := .int (nI (k + 1))) (C := rn_Mo) (T := fd_Mo) (N := 36) hx hb hts in_Mo hown hK hP 0 rfl rfl 22 (by decide) (hts _ wd_768) (fun _ h9 => h9) rfl dc_Mo_proof_113 ?_
                  refine lv_aload_n hx hb dc_Mo_proof_116 rfl (lv_at hl 2 rfl) ?_
                  refine va_get (ci := 10) (v := .ref x3) (C := rn_Mo) (T := fd_Mo) (N := 36) hx hb hts in_Mo hown hK hP 0 rfl rfl 10 (by decide) (hts _ wd_756) (fun _ h9 => h9) rfl dc_Mo_proof_117 ?_
                  refine lv_iload_n hx hb dc_Mo_proof_120 rfl (lv_at hl 0 rfl) ?_
                  refine ka_bald (t := e1_8) hx hb hK hP 4 1 rfl rfl (j := k) (by omega) (by omega) dc_Mo_proof_121 ?_
                  refine kn_top (y := kb_i false) (congrArg kb_i hrk1) ?_
                  refine kb_if_ne hx hb dc_Mo_proof_122 rfl (fun hc122 => ?_) (fun hc122 => ?_)
                  · exact absurd hc122 (by decide)
                  · refine lv_iconst (v := nI 1) hx hb dc_Mo_proof_125 (by decide +kernel) ?_
                    refine lv_goto hx hb dc_Mo_proof_126 rfl ?_
                    refine kn_top (y := kb_i true) (by decide +kernel) ?_
                    refine ka_bast (t := ad1) hx hb hK hP hD hS 9 1 rfl rfl (j := k + 1) (by omega) (by omega) dc_Mo_proof_130 (ws' := [mo_c o 0 0 x0 e1_1 e1_2 e1_3 e1_4 FF.2.1 x1 x2 x3 mhf true cl1 false mba n1 x4 x5 x6 x7 x8 (k + 1) x9 x10 x11 x12 mtr mrs x13 x14 x15 x16 mwr x17 mfo, ar_n cI x0 250 t, ar_n cI x1 16 e1_6, ar_i cI x2 128 e1_7, ar_b cZ x3 16 e1_8, ar_n cI x4 33 fs1, ar_n cI x5 33 fz1, ar_i cI x6 264 fl1, ar_b cZ x7 33 lb1, ar_b cZ x9 17 (va_up ad1 (k + 1) true), ar_n cI x10 17 nu1]) rfl (fun H locs hP hD hS => ?_)
                    refine lv_aload_n hx hb dc_Mo_proof_131 rfl (lv_at hl 2 rfl) ?_
                    refine va_get (ci := 10) (v := .ref x3) (C := rn_Mo) (T := fd_Mo) (N := 36) hx hb hts in_Mo hown hK hP 0 rfl rfl 10 (by decide) (hts _ wd_756) (fun _ h9 => h9) rfl dc_Mo_proof_132 ?_
                    refine lv_iload_n hx hb dc_Mo_proof_135 rfl (lv_at hl 0 rfl) ?_
                    refine ka_bald (t := e1_8) hx hb hK hP 4 1 rfl rfl (j := k) (by omega) (by omega) dc_Mo_proof_136 ?_
                    refine kn_top (y := kb_i false) (congrArg kb_i hrk1) ?_
                    refine kb_if_eq hx hb dc_Mo_proof_137 rfl (fun hc137 => ?_) (fun hc137 => ?_)
                    · refine lv_aload_n hx hb dc_Mo_proof_176 rfl (lv_at hl 2 rfl) ?_
                      refine lv_iload_n hx hb dc_Mo_proof_177 rfl (lv_at hl 0 rfl) ?_
                      refine kw_call0 (wr := [ar_n cI x0 250 t, ar_b cZ x3 16 e1_8, ar_b cZ x7 33 lb1, ar_b cZ x9 17 (va_up ad1 (k + 1) true), ar_n cI x10 17 nu1]) (ws' := [mo_c o 0 0 x0 e1_1 e1_2 e1_3 e1_4 FF.2.1 x1 x2 x3 mhf true cl1 false mba (n1 + 1) x4 x5 x6 x7 x8 (k + 1) x9 x10 x11 x12 mtr mrs x13 x14 x15 x16 mwr x17 mfo, ar_n cI x0 250 t, ar_n cI x1 16 e1_6, ar_i cI x2 128 e1_7, ar_b cZ x3 16 e1_8, ar_n cI x4 33 (va_up fs1 (n1 + 1) (FF.2.2.2.1 (k + 1))), ar_n cI x5 33 (va_up fz1 (n1 + 1) (e1_6 k)), ar_i cI x6 264 (va_cpy e1_7 fl1 (8 * k) (8 * (n1 + 1)) (e1_6 k)), ar_b cZ x7 33 lb1, ar_b cZ x9 17 (va_up ad1 (k + 1) true), ar_n cI x10 17 nu1]) (va_runV (As := [.int (nI k)]) (rest := []) ⟨hx, hb, hml, hown, hts⟩ (ct_Mo_make l D cI cZ _ o 0 0 x0 e1_1 e1_2 e1_3 e1_4 FF.2.1 x1 x2 x3 mhf true cl1 false mba n1 x4 x5 x6 x7 x8 (k + 1) x9 x10 x11 x12 mtr mrs x13 x14 x15 x16 mwr x17 mfo e1_6 e1_7 fz1 fs1 fl1 k bb pm (FF.2.2.2.1 (k + 1)) (by omega) (by omega) (hrow)) (cwV 1 hts (kx_gV wd_907 wd_909 (kx_sel (q := (yn_Mo_make, 36)) (List.mem_append_right _ (List.mem_append_left _ (List.mem_of_getElem? (i := 4) rfl)))) wd_9 wd_910) rfl rfl rfl ⟨rfl, yd_Mo_make⟩ ⟨Nat.le_of_ble_eq_true rfl, Nat.le_of_ble_eq_true rfl⟩) (kp_V (q0 := 0) (ci := 10) hP hD hK hN [0, 2, 3, 6, 5, 7] rfl rfl rfl rfl rfl) rfl rfl hl.1 rfl (lv_room (Nat.le_of_ble_eq_true rfl)) dc_Mo_proof_178 ⟨Nat.le_of_ble_eq_true rfl, Nat.le_of_ble_eq_true rfl⟩) hP hD hS hA [0, 2, 3, 6, 5, 7] [1, 4, 8, 9, 10] [5, 0, 6, 7, 1, 9, 8, 10, 2, 3, 4] rfl rfl rfl (by decide) rfl rfl (fun H locs hP hD hS => ?_)
                      have hP : va_P D kc_l [mo_c o 0 0 x0 e1_1 e1_2 e1_3 e1_4 FF.2.1 x1 x2 x3 mhf true cl1 false mba (n1 + 1) x4 x5 x6 x7 x8 (k + 1) x9 x10 x11 x12 mtr mrs x13 x14 x15 x16 mwr x17 mfo, ar_n cI x0 250 t, ar_n cI x1 16 e1_6, ar_i cI x2 128 e1_7, ar_b cZ x3 16 e1_8, ar_n cI x4 33 (va_up fs1 (n1 + 1) (FF.2.2.2.1 (k + 1))), ar_n cI x5 33 (va_up fz1 (n1 + 1) (FF.2.2.1 (k + 1))), ar_i cI x6 264 (va_cpy FF.2.2.2.2.1 fl1 ((k + 1) * 8) ((n1 + 1) * 8) (FF.2.2.1 (k + 1))), ar_b cZ x7 33 lb1, ar_b cZ x9 17 (va_up ad1 (k + 1) true), ar_n cI x10 17 nu1] H := by rw [← cpy_rel hrel (by omega), ← (hrel k (by omega)).2.1]; exact hP
                      have hD : va_D A [mo_c o 0 0 x0 e1_1 e1_2 e1_3 e1_4 FF.2.1 x1 x2 x3 mhf true cl1 false mba (n1 + 1) x4 x5 x6 x7 x8 (k + 1) x9 x10 x11 x12 mtr mrs x13 x14 x15 x16 mwr x17 mfo, ar_n cI x0 250 t, ar_n cI x1 16 e1_6, ar_i cI x2 128 e1_7, ar_b cZ x3 16 e1_8, ar_n cI x4 33 (va_up fs1 (n1 + 1) (FF.2.2.2.1 (k + 1))), ar_n cI x5 33 (va_up fz1 (n1 + 1) (FF.2.2.1 (k + 1))), ar_i cI x6 264 (va_cpy FF.2.2.2.2.1 fl1 ((k + 1) * 8) ((n1 + 1) * 8) (FF.2.2.1 (k + 1))), ar_b cZ x7 33 lb1, ar_b cZ x9 17 (va_up ad1 (k + 1) true), ar_n cI x10 17 nu1] := by rw [← cpy_rel hrel (by omega), ← (hrel k (by omega)).2.1]; exact hD
                      refine lv_aload_n hx hb dc_Mo_proof_181 rfl (lv_at hl 2 rfl) ?_
                      refine va_get (ci := 10) (v := .ref x10) (C := rn_Mo) (T := fd_Mo) (N := 36) hx hb hts in_Mo hown hK hP 0 rfl rfl 24 (by decide) (hts _ wd_770) (fun _ h9 => h9) rfl dc_Mo_proof_182 ?_
                      refine lv_aload_n hx hb dc_Mo_proof_185 rfl (lv_at hl 2 rfl) ?_
                      refine va_get (ci := 10) (v := .int (nI (k + 1))) (C := rn_Mo) (T := fd_Mo) (N := 36) hx hb hts in_Mo hown hK hP 0 rfl rfl 22 (by decide) (hts _ wd_768) (fun _ h9 => h9) rfl dc_Mo_proof_186 ?_
                      refine lv_aload_n hx hb dc_Mo_proof_189 rfl (lv_at hl 2 rfl) ?_
                      refine va_get (ci := 10) (v := .int (nI (n1 + 1))) (C := rn_Mo) (T := fd_Mo) (N := 36) hx hb hts in_Mo hown hK hP 0 rfl rfl 16 (by decide) (hts _ wd_762) (fun _ h9 => h9) rfl dc_Mo_proof_190 ?_
                      refine ka_nast (t := nu1) hx hb hK hP hD hS 10 0 rfl rfl (j := k + 1) (by omega) (by omega) dc_Mo_proof_193 (ws' := [mo_c o 0 0 x0 e1_1 e1_2 e1_3 e1_4 FF.2.1 x1 x2 x3 mhf true cl1 false mba (n1 + 1) x4 x5 x6 x7 x8 (k + 1) x9 x10 x11 x12 mtr mrs x13 x14 x15 x16 mwr x17 mfo, ar_n cI x0 250 t, ar_n cI x1 16 e1_6, ar_i cI x2 128 e1_7, ar_b cZ x3 16 e1_8, ar_n cI x4 33 (va_up fs1 (n1 + 1) (FF.2.2.2.1 (k + 1))), ar_n cI x5 33 (va_up fz1 (n1 + 1) (FF.2.2.1 (k + 1))), ar_i cI x6 264 (va_cpy FF.2.2.2.2.1 fl1 ((k + 1) * 8) ((n1 + 1) * 8) (FF.2.2.1 (k + 1))), ar_b cZ x7 33 lb1, ar_b cZ x9 17 (va_up ad1 (k + 1) true), ar_n cI x10 17 (va_up nu1 (k + 1) (n1 + 1))]) rfl (fun H locs hP hD hS => ?_)
                      refine lv_aload_n hx hb dc_Mo_proof_194 rfl (lv_at hl 2 rfl) ?_
                      refine va_get (ci := 10) (v := .ref x7) (C := rn_Mo) (T := fd_Mo) (N := 36) hx hb hts in_Mo hown hK hP 0 rfl rfl 20 (by decide) (hts _ wd_766) (fun _ h9 => h9) rfl dc_Mo_proof_195 ?_
                      refine lv_aload_n hx hb dc_Mo_proof_198 rfl (lv_at hl 2 rfl) ?_
                      refine va_get (ci := 10) (v := .int (nI (n1 + 1))) (C := rn_Mo) (T := fd_Mo) (N := 36) hx hb hts in_Mo hown hK hP 0 rfl rfl 16 (by decide) (hts _ wd_762) (fun _ h9 => h9) rfl dc_Mo_proof_199 ?_
                      refine lv_iconst (v := nI 1) hx hb dc_Mo_proof_202 (by decide +kernel) ?_
                      refine kn_top (y := kb_i true) (by decide +kernel) ?_
                      refine ka_bast (t := lb1) hx hb hK hP hD hS 8 1 rfl rfl (j := n1 + 1) (by omega) (by omega) dc_Mo_proof_203 (ws' := [mo_c o 0 0 x0 e1_1 e1_2 e1_3 e1_4 FF.2.1 x1 x2 x3 mhf true cl1 false mba (n1 + 1) x4 x5 x6 x7 x8 (k + 1) x9 x10 x11 x12 mtr mrs x13 x14 x15 x16 mwr x17 mfo, ar_n cI x0 250 t, ar_n cI x1 16 e1_6, ar_i cI x2 128 e1_7, ar_b cZ x3 16 e1_8, ar_n cI x4 33 (va_up fs1 (n1 + 1) (FF.2.2.2.1 (k + 1))), ar_n cI x5 33 (va_up fz1 (n1 + 1) (FF.2.2.1 (k + 1))), ar_i cI x6 264 (va_cpy FF.2.2.2.2.1 fl1 ((k + 1) * 8) ((n1 + 1) * 8) (FF.2.2.1 (k + 1))), ar_b cZ x7 33 (va_up lb1 (n1 + 1) true), ar_b cZ x9 17 (va_up ad1 (k + 1) true), ar_n cI x10 17 (va_up nu1 (k + 1) (n1 + 1))]) rfl (fun H locs hP hD hS => ?_)
                      refine lv_aload_n hx hb dc_Mo_proof_204 rfl (lv_at hl 2 rfl) ?_
                      refine lv_aload_n hx hb dc_Mo_proof_205 rfl (lv_at hl 2 rfl) ?_
                      refine va_get (ci := 10) (v := .ref x5) (C := rn_Mo) (T := fd_Mo) (N := 36) hx hb hts in_Mo hown hK hP 0 rfl rfl 18 (by decide) (hts _ wd_764) (fun _ h9 => h9) rfl dc_Mo_proof_206 ?_
                      refine lv_aload_n hx hb dc_Mo_proof_209 rfl (lv_at hl 2 rfl) ?_
                      refine va_get (ci := 10) (v := .int (nI (n1 + 1))) (C := rn_Mo) (T := fd_Mo) (N := 36) hx hb hts in_Mo hown hK hP 0 rfl rfl 16 (by decide) (hts _ wd_762) (fun _ h9 => h9) rfl dc_Mo_proof_210 ?_
                      refine ka_nald (t := va_up fz1 (n1 + 1) (FF.2.2.1 (k + 1))) hx hb hK hP 6 0 rfl rfl (j := n1 + 1) (by omega) (by omega) dc_Mo_proof_213 ?_
                      refine kn_top (y := nI (FF.2.2.1 (k + 1))) (congrArg nI (va_up_self _ _ _)) ?_
                      refine kn_if_ne hx hb (by have := rk_8 hrk (i := k + 1) (by omega) (by omega); omega) dc_Mo_proof_214 rfl (fun hc214 => ?_) (fun hc214 => ?_)
                      · refine lv_iconst (v := nI 0) hx hb dc_Mo_proof_221 (by decide +kernel) ?_
                        refine kn_top (y := kb_i false) (by decide +kernel) ?_
                        refine va_put (ci := 10) (v := .int (kb_i false)) (ty := .boolean) (C := rn_Mo) (T := fd_Mo) (N := 36) hx hb hts in_Mo ty_Mo tk_Mo nm_Mo hown hK hP hD hS 0 rfl rfl 13 (by decide) (hts _ wd_759) (fun _ h9 => h9) rfl (by decide +kernel) (kb_nar _) (kb_fit _) (Nat.le_of_ble_eq_true rfl) dc_Mo_proof_222 (fun H locs hP hD hS => ?_)
                        have hP : va_P D kc_l [mo_c o 0 0 x0 e1_1 e1_2 e1_3 e1_4 FF.2.1 x1 x2 x3 mhf true false false mba (n1 + 1) x4 x5 x6 x7 x8 (k + 1) x9 x10 x11 x12 mtr mrs x13 x14 x15 x16 mwr x17 mfo, ar_n cI x0 250 t, ar_n cI x1 16 e1_6, ar_i cI x2 128 e1_7, ar_b cZ x3 16 e1_8, ar_n cI x4 33 (va_up fs1 (n1 + 1) (FF.2.2.2.1 (k + 1))), ar_n cI x5 33 (va_up fz1 (n1 + 1) (FF.2.2.1 (k + 1))), ar_i cI x6 264 (va_cpy FF.2.2.2.2.1 fl1 ((k + 1) * 8) ((n1 + 1) * 8) (FF.2.2.1 (k + 1))), ar_b cZ x7 33 (va_up lb1 (n1 + 1) true), ar_b cZ x9 17 (va_up ad1 (k + 1) true), ar_n cI x10 17 (va_up nu1 (k + 1) (n1 + 1))] H := hP
                        have hD : va_D A [mo_c o 0 0 x0 e1_1 e1_2 e1_3 e1_4 FF.2.1 x1 x2 x3 mhf true false false mba (n1 + 1) x4 x5 x6 x7 x8 (k + 1) x9 x10 x11 x12 mtr mrs x13 x14 x15 x16 mwr x17 mfo, ar_n cI x0 250 t, ar_n cI x1 16 e1_6, ar_i cI x2 128 e1_7, ar_b cZ x3 16 e1_8, ar_n cI x4 33 (va_up fs1 (n1 + 1) (FF.2.2.2.1 (k + 1))), ar_n cI x5 33 (va_up fz1 (n1 + 1) (FF.2.2.1 (k + 1))), ar_i cI x6 264 (va_cpy FF.2.2.2.2.1 fl1 ((k + 1) * 8) ((n1 + 1) * 8) (FF.2.2.1 (k + 1))), ar_b cZ x7 33 (va_up lb1 (n1 + 1) true), ar_b cZ x9 17 (va_up ad1 (k + 1) true), ar_n cI x10 17 (va_up nu1 (k + 1) (n1 + 1))] := hD
                        refine lv_iinc (k := 0) (v := nI (k + 1)) (lv' := [(3, .int (nI (k + 1))), (2, .int (kb_i true)), (0, .ref o), (1, .int (kb_i false))]) hx hb dc_Mo_proof_225 hl rfl (nI_1 _) (by decide) rfl (fun ls hl => ?_)
                        refine lv_goto hx hb dc_Mo_proof_228 rfl ?_
                        exact ih_83 _ _ _ _ _ _ _ _ _ _ _ _ _ _ _ (by omega) hP hD hS hl ((set_add (by omega) hop hde).symm.trans h1) (by omega) (⟨by omega, by omega⟩) (by rw [decide_eq_false hc214]; rfl) (fun j a b => lv_add (hlb j a b)) (up_16 h161 (rk_16 hrk (by omega) (by omega))) (ad_st (x := false) had)
                      · refine lv_iconst (v := nI 1) hx hb dc_Mo_proof_217 (by decide +kernel) ?_
                        refine lv_goto hx hb dc_Mo_proof_218 rfl ?_
                        refine kn_top (y := kb_i true) (by decide +kernel) ?_
                        refine va_put (ci := 10) (v := .int (kb_i true)) (ty := .boolean) (C := rn_Mo) (T := fd_Mo) (N := 36) hx hb hts in_Mo ty_Mo tk_Mo nm_Mo hown hK hP hD hS 0 rfl rfl 13 (by decide) (hts _ wd_759) (fun _ h9 => h9) rfl (by decide +kernel) (kb_nar _) (kb_fit _) (Nat.le_of_ble_eq_true rfl) dc_Mo_proof_222 (fun H locs hP hD hS => ?_)
                        have hP : va_P D kc_l [mo_c o 0 0 x0 e1_1 e1_2 e1_3 e1_4 FF.2.1 x1 x2 x3 mhf true true false mba (n1 + 1) x4 x5 x6 x7 x8 (k + 1) x9 x10 x11 x12 mtr mrs x13 x14 x15 x16 mwr x17 mfo, ar_n cI x0 250 t, ar_n cI x1 16 e1_6, ar_i cI x2 128 e1_7, ar_b cZ x3 16 e1_8, ar_n cI x4 33 (va_up fs1 (n1 + 1) (FF.2.2.2.1 (k + 1))), ar_n cI x5 33 (va_up fz1 (n1 + 1) (FF.2.2.1 (k + 1))), ar_i cI x6 264 (va_cpy FF.2.2.2.2.1 fl1 ((k + 1) * 8) ((n1 + 1) * 8) (FF.2.2.1 (k + 1))), ar_b cZ x7 33 (va_up lb1 (n1 + 1) true), ar_b cZ x9 17 (va_up ad1 (k + 1) true), ar_n cI x10 17 (va_up nu1 (k + 1) (n1 + 1))] H := hP
                        have hD : va_D A [mo_c o 0 0 x0 e1_1 e1_2 e1_3 e1_4 FF.2.1 x1 x2 x3 mhf true true false mba (n1 + 1) x4 x5 x6 x7 x8 (k + 1) x9 x10 x11 x12 mtr mrs x13 x14 x15 x16 mwr x17 mfo, ar_n cI x0 250 t, ar_n cI x1 16 e1_6, ar_i cI x2 128 e1_7, ar_b cZ x3 16 e1_8, ar_n cI x4 33 (va_up fs1 (n1 + 1) (FF.2.2.2.1 (k + 1))), ar_n cI x5 33 (va_up fz1 (n1 + 1) (FF.2.2.1 (k + 1))), ar_i cI x6 264 (va_cpy FF.2.2.2.2.1 fl1 ((k + 1) * 8) ((n1 + 1) * 8) (FF.2.2.1 (k + 1))), ar_b cZ x7 33 (va_up lb1 (n1 + 1) true), ar_b cZ x9 17 (va_up ad1 (k + 1) true), ar_n cI x10 17 (va_up nu1 (k + 1) (n1 + 1))] := hD
                        refine lv_iinc (k := 0) (v := nI (k + 1)) (lv' := [(3, .int (nI (k + 1))), (2, .int (kb_i true)), (0, .ref o), (1, .int (kb_i false))]) hx hb dc_Mo_proof_225 hl rfl (nI_1 _) (by decide) rfl (fun ls hl => ?_)
                        refine lv_goto hx hb dc_Mo_proof_228 rfl ?_
                        exact ih_83 _ _ _ _ _ _ _ _ _ _ _ _ _ _ _ (by omega) hP hD hS hl ((set_add (by omega) hop hde).symm.trans h1) (by omega) (⟨by omega, by omega⟩) (by rw [decide_eq_true hc214]; rfl) (fun j a b => lv_add (hlb j a b)) (up_16 h161 (rk_16 hrk (by omega) (by omega))) (ad_st (x := false) had)
                    · exact absurd hc137 (by decide)
                · have hde : FF.2.2.2.2.2 (k + 1) = true := by rw [← hdd k (by omega)]; exact hrk1
                  refine lv_aload_n hx hb dc_Mo_proof_98 rfl (lv_at hl 2 rfl) ?_
                  refine lv_dup hx hb dc_Mo_proof_99 rfl ?_
                  refine va_get (ci := 10) (v := .int (nI k)) (C := rn_Mo) (T := fd_Mo) (N := 36) hx hb hts in_Mo hown hK hP 0 rfl rfl 22 (by decide) (hts _ wd_768) (fun _ h9 => h9) rfl dc_Mo_proof_100 ?_
                  refine lv_iconst (v := nI 1) hx hb dc_Mo_proof_103 (by decide +kernel) ?_
                  refine kn_iadd hx hb dc_Mo_proof_104 ?_
                  refine va_put (ci := 10) (v := .int (nI (k + 1))) (ty := .int) (C := rn_Mo) (T := fd_Mo) (N := 36) hx hb hts in_Mo ty_Mo tk_Mo nm_Mo hown hK hP hD hS 0 rfl rfl 22 (by decide) (hts _ wd_768) (fun _ h9 => h9) rfl (by decide +kernel) rfl rfl (Nat.le_of_ble_eq_true rfl) dc_Mo_proof_105 (fun H locs hP hD hS => ?_)
                  have hP : va_P D kc_l [mo_c o 0 0 x0 e1_1 e1_2 e1_3 e1_4 FF.2.1 x1 x2 x3 mhf true cl1 false mba n1 x4 x5 x6 x7 x8 (k + 1) x9 x10 x11 x12 mtr mrs x13 x14 x15 x16 mwr x17 mfo, ar_n cI x0 250 t, ar_n cI x1 16 e1_6, ar_i cI x2 128 e1_7, ar_b cZ x3 16 e1_8, ar_n cI x4 33 fs1, ar_n cI x5 33 fz1, ar_i cI x6 264 fl1, ar_b cZ x7 33 lb1, ar_b cZ x9 17 ad1, ar_n cI x10 17 nu1] H := hP
                  have hD : va_D A [mo_c o 0 0 x0 e1_1 e1_2 e1_3 e1_4 FF.2.1 x1 x2 x3 mhf true cl1 false mba n1 x4 x5 x6 x7 x8 (k + 1) x9 x10 x11 x12 mtr mrs x13 x14 x15 x16 mwr x17 mfo, ar_n cI x0 250 t, ar_n cI x1 16 e1_6, ar_i cI x2 128 e1_7, ar_b cZ x3 16 e1_8, ar_n cI x4 33 fs1, ar_n cI x5 33 fz1, ar_i cI x6 264 fl1, ar_b cZ x7 33 lb1, ar_b cZ x9 17 ad1, ar_n cI x10 17 nu1] := hD
                  refine lv_aload_n hx hb dc_Mo_proof_108 rfl (lv_at hl 2 rfl) ?_
                  refine va_get (ci := 10) (v := .ref x9) (C := rn_Mo) (T := fd_Mo) (N := 36) hx hb hts in_Mo hown hK hP 0 rfl rfl 23 (by decide) (hts _ wd_769) (fun _ h9 => h9) rfl dc_Mo_proof_109 ?_
                  refine lv_aload_n hx hb dc_Mo_proof_112 rfl (lv_at hl 2 rfl) ?_
                  refine va_get (ci := 10) (v := .int (nI (k + 1))) (C := rn_Mo) (T := fd_Mo) (N := 36) hx hb hts in_Mo hown hK hP 0 rfl rfl 22 (by decide) (hts _ wd_768) (fun _ h9 => h9) rfl dc_Mo_proof_113 ?_
                  refine lv_aload_n hx hb dc_Mo_proof_116 rfl (lv_at hl 2 rfl) ?_
                  refine va_get (ci := 10) (v := .ref x3) (C := rn_Mo) (T := fd_Mo) (N := 36) hx hb hts in_Mo hown hK hP 0 rfl rfl 10 (by decide) (hts _ wd_756) (fun _ h9 => h9) rfl dc_Mo_proof_117 ?_
                  refine lv_iload_n hx hb dc_Mo_proof_120 rfl (lv_at hl 0 rfl) ?_
                  refine ka_bald (t := e1_8) hx hb hK hP 4 1 rfl rfl (j := k) (by omega) (by omega) dc_Mo_proof_121 ?_
                  refine kn_top (y := kb_i true) (congrArg kb_i hrk1) ?_
                  refine kb_if_ne hx hb dc_Mo_proof_122 rfl (fun hc122 => ?_) (fun hc122 => ?_)
                  · refine lv_iconst (v := nI 0) hx hb dc_Mo_proof_129 (by decide +kernel) ?_
                    refine kn_top (y := kb_i false) (by decide +kernel) ?_
                    refine ka_bast (t := ad1) hx hb hK hP hD hS 9 1 rfl rfl (j := k + 1) (by omega) (by omega) dc_Mo_proof_130 (ws' := [mo_c o 0 0 x0 e1_1 e1_2 e1_3 e1_4 FF.2.1 x1 x2 x3 mhf true cl1 false mba n1 x4 x5 x6 x7 x8 (k + 1) x9 x10 x11 x12 mtr mrs x13 x14 x15 x16 mwr x17 mfo, ar_n cI x0 250 t, ar_n cI x1 16 e1_6, ar_i cI x2 128 e1_7, ar_b cZ x3 16 e1_8, ar_n cI x4 33 fs1, ar_n cI x5 33 fz1, ar_i cI x6 264 fl1, ar_b cZ x7 33 lb1, ar_b cZ x9 17 (va_up ad1 (k + 1) false), ar_n cI x10 17 nu1]) rfl (fun H locs hP hD hS => ?_)
                    refine lv_aload_n hx hb dc_Mo_proof_131 rfl (lv_at hl 2 rfl) ?_
                    refine va_get (ci := 10) (v := .ref x3) (C := rn_Mo) (T := fd_Mo) (N := 36) hx hb hts in_Mo hown hK hP 0 rfl rfl 10 (by decide) (hts _ wd_756) (fun _ h9 => h9) rfl dc_Mo_proof_132 ?_
                    refine lv_iload_n hx hb dc_Mo_proof_135 rfl (lv_at hl 0 rfl) ?_
                    refine ka_bald (t := e1_8) hx hb hK hP 4 1 rfl rfl (j := k) (by omega) (by omega) dc_Mo_proof_136 ?_
                    refine kn_top (y := kb_i true) (congrArg kb_i hrk1) ?_
                    refine kb_if_eq hx hb dc_Mo_proof_137 rfl (fun hc137 => ?_) (fun hc137 => ?_)
                    · exact absurd hc137 (by decide)
                    · refine lv_aload_n hx hb dc_Mo_proof_140 rfl (lv_at hl 2 rfl) ?_
                      refine va_get (ci := 10) (v := .ref x10) (C := rn_Mo) (T := fd_Mo) (N := 36) hx hb hts in_Mo hown hK hP 0 rfl rfl 24 (by decide) (hts _ wd_770) (fun _ h9 => h9) rfl dc_Mo_proof_141 ?_
                      refine lv_aload_n hx hb dc_Mo_proof_144 rfl (lv_at hl 2 rfl) ?_
                      refine va_get (ci := 10) (v := .int (nI (k + 1))) (C := rn_Mo) (T := fd_Mo) (N := 36) hx hb hts in_Mo hown hK hP 0 rfl rfl 22 (by decide) (hts _ wd_768) (fun _ h9 => h9) rfl dc_Mo_proof_145 ?_
                      refine lv_aload_n hx hb dc_Mo_proof_148 rfl (lv_at hl 2 rfl) ?_
                      refine lv_aload_n hx hb dc_Mo_proof_149 rfl (lv_at hl 2 rfl) ?_
                      refine lv_iload_n hx hb dc_Mo_proof_150 rfl (lv_at hl 0 rfl) ?_
                      refine kr_call1 (va_runV (As := [.int (nI k)]) (rest := [.ref o, .int (nI (k + 1)), .ref x10]) ⟨hx, hb, hml, hown, hts⟩ (ct_Mo_setAt l D cI cZ _ o 0 0 x0 e1_1 e1_2 e1_3 e1_4 FF.2.1 x1 x2 x3 mhf true cl1 false mba n1 x4 x5 x6 x7 x8 (k + 1) x9 x10 x11 x12 mtr mrs x13 x14 x15 x16 mwr x17 mfo e1_6 e1_7 k bb pm (FF.2.2.2.1 (k + 1)) (by omega) (hrow)) (cwV 1 hts (kx_gV wd_911 wd_913 (kx_sel (q := (yn_Mo_setAt, 36)) (List.mem_append_right _ (List.mem_append_left _ (List.mem_of_getElem? (i := 5) rfl)))) wd_9 wd_914) rfl rfl rfl ⟨rfl, yd_Mo_setAt⟩ ⟨Nat.le_of_ble_eq_true rfl, Nat.le_of_ble_eq_true rfl⟩) (kp_V (q0 := 0) (ci := 10) hP hD hK hN [0, 2, 3] rfl rfl rfl rfl rfl) rfl rfl hl.1 rfl (lv_room (Nat.le_of_ble_eq_true rfl)) dc_Mo_proof_151 ⟨Nat.le_of_ble_eq_true rfl, Nat.le_of_ble_eq_true rfl⟩) ?_
                      refine kr_call1 (va_runV (As := [.int (nI (FF.2.2.2.1 (k + 1)))]) (rest := [.int (nI (k + 1)), .ref x10]) ⟨hx, hb, hml, hown, hts⟩ (ct_Mo_alike l D cI cZ _ o 0 0 x0 e1_1 e1_2 e1_3 e1_4 FF.2.1 x1 x2 x3 mhf true cl1 false mba n1 x4 x5 x6 x7 x8 (k + 1) x9 x10 x11 x12 mtr mrs x13 x14 x15 x16 mwr x17 mfo lb1 fs1 (FF.2.2.2.1 (k + 1)) lv (by omega) (h161) (rk_16 hrk (by omega) (by omega)) (fun j a b => hlb j a (by omega))) (cwV 1 hts (kx_gV wd_934 wd_936 (kx_sel (q := (yn_Mo_alike, 36)) (List.mem_append_right _ (List.mem_append_left _ (List.mem_of_getElem? (i := 9) rfl)))) wd_9 wd_937) rfl rfl rfl ⟨rfl, yd_Mo_alike⟩ ⟨Nat.le_of_ble_eq_true rfl, Nat.le_of_ble_eq_true rfl⟩) (kp_V (q0 := 0) (ci := 10) hP hD hK hN [0, 8, 5] rfl rfl rfl rfl rfl) rfl rfl hl.1 rfl (lv_room (Nat.le_of_ble_eq_true rfl)) dc_Mo_proof_154 ⟨Nat.le_of_ble_eq_true rfl, Nat.le_of_ble_eq_true rfl⟩) ?_
                      refine ka_nast (t := nu1) hx hb hK hP hD hS 10 0 rfl rfl (j := k + 1) (by omega) (by omega) dc_Mo_proof_157 (ws' := [mo_c o 0 0 x0 e1_1 e1_2 e1_3 e1_4 FF.2.1 x1 x2 x3 mhf true cl1 false mba n1 x4 x5 x6 x7 x8 (k + 1) x9 x10 x11 x12 mtr mrs x13 x14 x15 x16 mwr x17 mfo, ar_n cI x0 250 t, ar_n cI x1 16 e1_6, ar_i cI x2 128 e1_7, ar_b cZ x3 16 e1_8, ar_n cI x4 33 fs1, ar_n cI x5 33 fz1, ar_i cI x6 264 fl1, ar_b cZ x7 33 lb1, ar_b cZ x9 17 (va_up ad1 (k + 1) false), ar_n cI x10 17 (va_up nu1 (k + 1) (pt_last (fun j => lv.testBit j && decide (fs1 j = (FF.2.2.2.1 (k + 1)))) n1))]) rfl (fun H locs hP hD hS => ?_)
                      refine lv_aload_n hx hb dc_Mo_proof_158 rfl (lv_at hl 2 rfl) ?_
                      refine va_get (ci := 10) (v := .ref x7) (C := rn_Mo) (T := fd_Mo) (N := 36) hx hb hts in_Mo hown hK hP 0 rfl rfl 20 (by decide) (hts _ wd_766) (fun _ h9 => h9) rfl dc_Mo_proof_159 ?_
                      refine lv_aload_n hx hb dc_Mo_proof_162 rfl (lv_at hl 2 rfl) ?_
                      refine va_get (ci := 10) (v := .ref x10) (C := rn_Mo) (T := fd_Mo) (N := 36) hx hb hts in_Mo hown hK hP 0 rfl rfl 24 (by decide) (hts _ wd_770) (fun _ h9 => h9) rfl dc_Mo_proof_163 ?_
                      refine lv_aload_n hx hb dc_Mo_proof_166 rfl (lv_at hl 2 rfl) ?_
                      refine va_get (ci := 10) (v := .int (nI (k + 1))) (C := rn_Mo) (T := fd_Mo) (N := 36) hx hb hts in_Mo hown hK hP 0 rfl rfl 22 (by decide) (hts _ wd_768) (fun _ h9 => h9) rfl dc_Mo_proof_167 ?_
                      refine ka_nald (t := va_up nu1 (k + 1) (pt_last (fun j => lv.testBit j && decide (fs1 j = (FF.2.2.2.1 (k + 1)))) n1)) hx hb hK hP 10 0 rfl rfl (j := k + 1) (by omega) (by omega) dc_Mo_proof_170 ?_
                      refine kn_top (y := nI (pt_last (fun j => lv.testBit j && decide (fs1 j = FF.2.2.2.1 (k + 1))) n1)) (congrArg nI (va_up_self _ _ _)) ?_
                      refine lv_iconst (v := nI 0) hx hb dc_Mo_proof_171 (by decide +kernel) ?_
                      refine kn_top (y := kb_i false) (by decide +kernel) ?_
                      refine ka_bast (t := lb1) hx hb hK hP hD hS 8 1 rfl rfl (j := pt_last (fun j => lv.testBit j && decide (fs1 j = FF.2.2.2.1 (k + 1))) n1) (by have := pt_last_le (fun j => lv.testBit j && decide (fs1 j = FF.2.2.2.1 (k + 1))) n1; omega) (by omega) dc_Mo_proof_172 (ws' := [mo_c o 0 0 x0 e1_1 e1_2 e1_3 e1_4 FF.2.1 x1 x2 x3 mhf true cl1 false mba n1 x4 x5 x6 x7 x8 (k + 1) x9 x10 x11 x12 mtr mrs x13 x14 x15 x16 mwr x17 mfo, ar_n cI x0 250 t, ar_n cI x1 16 e1_6, ar_i cI x2 128 e1_7, ar_b cZ x3 16 e1_8, ar_n cI x4 33 fs1, ar_n cI x5 33 fz1, ar_i cI x6 264 fl1, ar_b cZ x7 33 (va_up lb1 (pt_last (fun j => lv.testBit j && decide (fs1 j = FF.2.2.2.1 (k + 1))) n1) false), ar_b cZ x9 17 (va_up ad1 (k + 1) false), ar_n cI x10 17 (va_up nu1 (k + 1) (pt_last (fun j => lv.testBit j && decide (fs1 j = (FF.2.2.2.1 (k + 1)))) n1))]) rfl (fun H locs hP hD hS => ?_)
                      refine lv_goto hx hb dc_Mo_proof_173 rfl ?_
                      refine lv_iinc (k := 0) (v := nI (k + 1)) (lv' := [(3, .int (nI (k + 1))), (2, .int (kb_i true)), (0, .ref o), (1, .int (kb_i false))]) hx hb dc_Mo_proof_225 hl rfl (nI_1 _) (by decide) rfl (fun ls hl => ?_)
                      refine lv_goto hx hb dc_Mo_proof_228 rfl ?_
                      exact ih_83 _ _ _ _ _ _ _ _ _ _ _ _ _ _ _ (by omega) hP hD hS hl ((set_del (by omega) hop hde rfl).symm.trans h1) (by omega) (⟨hn1.1, by omega⟩) (hcl) (fun j a b => lv_del (hlb j a b)) (h161) (ad_st (x := true) had)
                  · exact absurd hc122 (by decide)
        exact lp_83 _ 0 ((2 ^ (mba + 1) - 2)) mba fz fs fl true dl nu false ((pt_fst lb mba 33)) ad _ _ _ (Nat.lt_succ_self _) hP hD hS hl (hSS) (by omega) (⟨Nat.le_refl _, Nat.le_refl _⟩) (rfl) (fst_bit) (h16) (fun i a b => by omega)
      · exact absurd hc35 (by decide)
    · exact absurd hc19 (by decide)
  · exact absurd hc9 (by rw [hmf]; decide)

set_option maxHeartbeats 4000000 in
set_option maxRecDepth 100000 in
theorem ct_Mo_proof_c_no (l : Launch) (D : va_G) (cI cZ : ClassId) (sz : Nat) (o : Nat) (mth : Nat) (mty : Nat) (x0 : Nat) (mat : Nat) (mfr : Nat) (mto : Nat) (mgd : Bool) (mrd : Nat) (x1 : Nat) (x2 : Nat) (x3 : Nat) (mhf : Bool) (mhp : Bool) (mcl : Bool) (mck : Bool) (mba : Nat) (mct : Nat) (x4 : Nat) (x5 : Nat) (x6 : Nat) (x7 : Nat) (x8 : Nat) (mst : Nat) (x9 : Nat) (x10 : Nat) (x11 : Nat) (x12 : Nat) (mtr : Nat) (mrs : Nat) (x13 : Nat) (x14 : Nat) (x15 : Nat) (x16 : Nat) (mwr : Nat) (x17 : Nat) (mfo : Nat) (t : Nat → Nat) (rz : Nat → Nat) (rl : Nat → Int32) (rd : Nat → Bool) (gz : Nat → Nat) (gs : Nat → Nat) (gl : Nat → Int32) (dd : Nat → Bool) (FF : pt_Y) (hmf : mhf = true) (hty : mty ≤ 250) (ht : ∀ j, t j < 256) (hFF : pt_prf t mty 16 0 0 gz gs gl dd = FF) (hF : FF.1 = false) : Met l yn_Mo_proof (Cond.code yn_Mo_proof bc_Mo_proof 4 (some .int) :: kx_all) ({ frames := 4, cells := 0, slots := 0, locals := 84 } : Room) (kp [.ref o, .int (kb_i false)] D cI cZ [mo_c o mth mty x0 mat mfr mto mgd mrd x1 x2 x3 mhf mhp mcl mck mba mct x4 x5 x6 x7 x8 mst x9 x10 x11 x12 mtr mrs x13 x14 x15 x16 mwr x17 mfo, ar_n cI x0 250 t, ar_n cI x1 16 rz, ar_i cI x2 128 rl, ar_b cZ x3 16 rd] sz) (kw_e (some (.int (nI 0))) D kc_l (fun ex : Nat × Nat × Nat × Bool × Nat × (Nat → Nat) × (Nat → Int32) × (Nat → Bool) => [mo_c o 2 mty x0 ex.1 ex.2.1 ex.2.2.1 ex.2.2.2.1 ex.2.2.2.2.1 x1 x2 x3 mhf mhp mcl mck mba mct x4 x5 x6 x7 x8 mst x9 x10 x11 x12 mtr mrs x13 x14 x15 x16 mwr x17 mfo, ar_n cI x0 250 t, ar_n cI x1 16 ex.2.2.2.2.2.1, ar_i cI x2 128 ex.2.2.2.2.2.2.1, ar_b cZ x3 16 ex.2.2.2.2.2.2.2]) (va_A [mo_c o mth mty x0 mat mfr mto mgd mrd x1 x2 x3 mhf mhp mcl mck mba mct x4 x5 x6 x7 x8 mst x9 x10 x11 x12 mtr mrs x13 x14 x15 x16 mwr x17 mfo, ar_n cI x0 250 t, ar_n cI x1 16 rz, ar_i cI x2 128 rl, ar_b cZ x3 16 rd] sz)) 0 0 (va_A [mo_c o mth mty x0 mat mfr mto mgd mrd x1 x2 x3 mhf mhp mcl mck mba mct x4 x5 x6 x7 x8 mst x9 x10 x11 x12 mtr mrs x13 x14 x15 x16 mwr x17 mfo, ar_n cI x0 250 t, ar_n cI x1 16 rz, ar_i cI x2 128 rl, ar_b cZ x3 16 rd] sz) := by
  refine kx_metE (by decide) (Nat.le_of_ble_eq_true rfl) ?_
  intro p e s m below meth c ls A hx hb hr hml hts hown hlocks hin hA hP hK hD hN hl hS
  have hown : s.vm.findClass rn_Mo = some m.cls := hown
  have hl : lv_has ls 4 [(0, .ref o), (1, .int (kb_i false))] := hl
  refine lv_aload_n hx hb dc_Mo_proof_0 rfl (lv_at hl 0 rfl) ?_
  refine lv_iconst (v := nI 0) hx hb dc_Mo_proof_1 (by decide +kernel) ?_
  refine va_put (ci := 10) (v := .int (nI 0)) (ty := .int) (C := rn_Mo) (T := fd_Mo) (N := 36) hx hb hts in_Mo ty_Mo tk_Mo nm_Mo hown hK hP hD hS 0 rfl rfl 0 (by decide) (hts _ wd_746) (fun _ h9 => h9) rfl (by decide +kernel) rfl rfl (Nat.le_of_ble_eq_true rfl) dc_Mo_proof_2 (fun H locs hP hD hS => ?_)
  have hP : va_P D kc_l [mo_c o 0 mty x0 mat mfr mto mgd mrd x1 x2 x3 mhf mhp mcl mck mba mct x4 x5 x6 x7 x8 mst x9 x10 x11 x12 mtr mrs x13 x14 x15 x16 mwr x17 mfo, ar_n cI x0 250 t, ar_n cI x1 16 rz, ar_i cI x2 128 rl, ar_b cZ x3 16 rd] H := hP
  have hD : va_D A [mo_c o 0 mty x0 mat mfr mto mgd mrd x1 x2 x3 mhf mhp mcl mck mba mct x4 x5 x6 x7 x8 mst x9 x10 x11 x12 mtr mrs x13 x14 x15 x16 mwr x17 mfo, ar_n cI x0 250 t, ar_n cI x1 16 rz, ar_i cI x2 128 rl, ar_b cZ x3 16 rd] := hD
  refine lv_aload_n hx hb dc_Mo_proof_5 rfl (lv_at hl 0 rfl) ?_
  refine va_get (ci := 10) (v := .int (kb_i mhf)) (C := rn_Mo) (T := fd_Mo) (N := 36) hx hb hts in_Mo hown hK hP 0 rfl rfl 11 (by decide) (hts _ wd_757) (fun _ h9 => h9) rfl dc_Mo_proof_6 ?_
  refine kb_if_ne hx hb dc_Mo_proof_9 rfl (fun hc9 => ?_) (fun hc9 => ?_)
  · refine lv_iload_n hx hb dc_Mo_proof_18 rfl (lv_at hl 1 rfl) ?_
    refine kb_if_eq hx hb dc_Mo_proof_19 rfl (fun hc19 => ?_) (fun hc19 => ?_)
    · refine lv_aload_n hx hb dc_Mo_proof_29 rfl (lv_at hl 0 rfl) ?_
      refine kw_callE1 (wr := []) (w1 := fun ex_1 : { e : Nat × Nat × Nat × Bool × Nat × (Nat → Nat) × (Nat → Int32) × (Nat → Bool) // (pt_prf t mty 16 0 0 gz gs gl dd).1 = true → e.2.2.2.2.1 = (pt_prf t mty 16 0 0 gz gs gl dd).2.1 ∧ pt_rel (pt_prf t mty 16 0 0 gz gs gl dd).2.1 (pt_prf t mty 16 0 0 gz gs gl dd).2.2.1 (pt_prf t mty 16 0 0 gz gs gl dd).2.2.2.2.1 e.2.2.2.2.2.1 e.2.2.2.2.2.2.1 ∧ ∀ i, i < (pt_prf t mty 16 0 0 gz gs gl dd).2.1 → e.2.2.2.2.2.2.2 i = (pt_prf t mty 16 0 0 gz gs gl dd).2.2.2.2.2 (i + 1) } => [mo_c o 0 mty x0 ex_1.1.1 ex_1.1.2.1 ex_1.1.2.2.1 ex_1.1.2.2.2.1 ex_1.1.2.2.2.2.1 x1 x2 x3 mhf mhp mcl mck mba mct x4 x5 x6 x7 x8 mst x9 x10 x11 x12 mtr mrs x13 x14 x15 x16 mwr x17 mfo, ar_n cI x0 250 t, ar_n cI x1 16 ex_1.1.2.2.2.2.2.1, ar_i cI x2 128 ex_1.1.2.2.2.2.2.2.1, ar_b cZ x3 16 ex_1.1.2.2.2.2.2.2.2]) (ws' := fun ex_1 : { e : Nat × Nat × Nat × Bool × Nat × (Nat → Nat) × (Nat → Int32) × (Nat → Bool) // (pt_prf t mty 16 0 0 gz gs gl dd).1 = true → e.2.2.2.2.1 = (pt_prf t mty 16 0 0 gz gs gl dd).2.1 ∧ pt_rel (pt_prf t mty 16 0 0 gz gs gl dd).2.1 (pt_prf t mty 16 0 0 gz gs gl dd).2.2.1 (pt_prf t mty 16 0 0 gz gs gl dd).2.2.2.2.1 e.2.2.2.2.2.1 e.2.2.2.2.2.2.1 ∧ ∀ i, i < (pt_prf t mty 16 0 0 gz gs gl dd).2.1 → e.2.2.2.2.2.2.2 i = (pt_prf t mty 16 0 0 gz gs gl dd).2.2.2.2.2 (i + 1) } => [mo_c o 0 mty x0 ex_1.1.1 ex_1.1.2.1 ex_1.1.2.2.1 ex_1.1.2.2.2.1 ex_1.1.2.2.2.2.1 x1 x2 x3 mhf mhp mcl mck mba mct x4 x5 x6 x7 x8 mst x9 x10 x11 x12 mtr mrs x13 x14 x15 x16 mwr x17 mfo, ar_n cI x0 250 t, ar_n cI x1 16 ex_1.1.2.2.2.2.2.1, ar_i cI x2 128 ex_1.1.2.2.2.2.2.2.1, ar_b cZ x3 16 ex_1.1.2.2.2.2.2.2.2]) (va_runV (As := []) (rest := []) ⟨hx, hb, hml, hown, hts⟩ (ct_Mo_readProof l D cI cZ _ o 0 mty x0 mat mfr mto mgd mrd x1 x2 x3 mhf mhp mcl mck mba mct x4 x5 x6 x7 x8 mst x9 x10 x11 x12 mtr mrs x13 x14 x15 x16 mwr x17 mfo t rz rl rd gz gs gl dd (hty) (ht)) (cwV 0 hts (kx_gV wd_926 wd_928 (kx_sel (q := (yn_Mo_readProof, 36)) (List.mem_append_right _ (List.mem_append_left _ (List.mem_of_getElem? (i := 7) rfl)))) wd_9 wd_929) rfl rfl rfl ⟨rfl, yd_Mo_readProof⟩ ⟨Nat.le_of_ble_eq_true rfl, Nat.le_of_ble_eq_true rfl⟩) (kp_V (q0 := 0) (ci := 10) hP hD hK hN [0, 1, 2, 3, 4] rfl rfl rfl rfl rfl) rfl rfl hl.1 rfl (lv_room (Nat.le_of_ble_eq_true rfl)) dc_Mo_proof_30 ⟨Nat.le_of_ble_eq_true rfl, Nat.le_of_ble_eq_true rfl⟩) hP hD hS hA [0, 1, 2, 3, 4] [] [0, 1, 2, 3, 4] rfl rfl rfl (by decide) (fun _ => rfl) rfl (fun ex_1 H locs hP hD hS => ?_)
      obtain ⟨⟨e1_1, e1_2, e1_3, e1_4, e1_5, e1_6, e1_7, e1_8⟩, hex_1⟩ := ex_1
      dsimp only at hP hD hex_1
      rw [hFF] at hex_1
      refine kn_top (y := kb_i false) (by rw [hFF, hF]) ?_
      refine lv_istore_n (lv' := [(2, .int (kb_i false)), (0, .ref o), (1, .int (kb_i false))]) hx hb dc_Mo_proof_33 rfl hl (by decide) rfl (fun ls hl => ?_)
      refine lv_iload_n hx hb dc_Mo_proof_34 rfl (lv_at hl 0 rfl) ?_
      refine kb_if_ne hx hb dc_Mo_proof_35 rfl (fun hc35 => ?_) (fun hc35 => ?_)
      · exact absurd hc35 (by decide)
      · refine lv_aload_n hx hb dc_Mo_proof_38 rfl (lv_at hl 1 rfl) ?_
        refine lv_iconst (v := nI 2) hx hb dc_Mo_proof_39 (by decide +kernel) ?_
        refine kw_call1 (wr := [ar_n cI x0 250 t, ar_n cI x1 16 e1_6, ar_i cI x2 128 e1_7, ar_b cZ x3 16 e1_8]) (ws' := [mo_c o 2 mty x0 e1_1 e1_2 e1_3 e1_4 e1_5 x1 x2 x3 mhf mhp mcl mck mba mct x4 x5 x6 x7 x8 mst x9 x10 x11 x12 mtr mrs x13 x14 x15 x16 mwr x17 mfo, ar_n cI x0 250 t, ar_n cI x1 16 e1_6, ar_i cI x2 128 e1_7, ar_b cZ x3 16 e1_8]) (va_runV (As := [.int (nI 2)]) (rest := []) ⟨hx, hb, hml, hown, hts⟩ (ct_Mo_refuse l D cI cZ _ o 0 mty x0 e1_1 e1_2 e1_3 e1_4 e1_5 x1 x2 x3 mhf mhp mcl mck mba mct x4 x5 x6 x7 x8 mst x9 x10 x11 x12 mtr mrs x13 x14 x15 x16 mwr x17 mfo 2) (cwV 1 hts (kx_gV wd_903 wd_905 (kx_sel (q := (yn_Mo_refuse, 36)) (List.mem_append_right _ (List.mem_append_left _ (List.mem_of_getElem? (i := 3) rfl)))) wd_9 wd_906) rfl rfl rfl ⟨rfl, yd_Mo_refuse⟩ ⟨Nat.le_of_ble_eq_true rfl, Nat.le_of_ble_eq_true rfl⟩) (kp_V (q0 := 0) (ci := 10) hP hD hK hN [0] rfl rfl rfl rfl rfl) rfl rfl hl.1 rfl (lv_room (Nat.le_of_ble_eq_true rfl)) dc_Mo_proof_40 ⟨Nat.le_of_ble_eq_true rfl, Nat.le_of_ble_eq_true rfl⟩) hP hD hS hA [0] [1, 2, 3, 4] [4, 0, 1, 2, 3] rfl rfl rfl (by decide) rfl rfl (fun H locs hP hD hS => ?_)
        exact ke_iret (x := (e1_1, e1_2, e1_3, e1_4, e1_5, e1_6, e1_7, e1_8)) hx hb hr hlocks hP hD hS dc_Mo_proof_43 (rfl) (rfl)
    · exact absurd hc19 (by decide)
  · exact absurd hc9 (by rw [hmf]; decide)

set_option maxHeartbeats 4000000 in
set_option maxRecDepth 100000 in
theorem ct_Mo_proof_p (l : Launch) (D : va_G) (cI cZ : ClassId) (sz : Nat) (o : Nat) (mth : Nat) (mty : Nat) (x0 : Nat) (mat : Nat) (mfr : Nat) (mto : Nat) (mgd : Bool) (mrd : Nat) (x1 : Nat) (x2 : Nat) (x3 : Nat) (mhf : Bool) (mhp : Bool) (mcl : Bool) (mck : Bool) (mba : Nat) (mct : Nat) (x4 : Nat) (x5 : Nat) (x6 : Nat) (x7 : Nat) (x8 : Nat) (mst : Nat) (x9 : Nat) (x10 : Nat) (x11 : Nat) (x12 : Nat) (mtr : Nat) (mrs : Nat) (x13 : Nat) (x14 : Nat) (x15 : Nat) (x16 : Nat) (mwr : Nat) (x17 : Nat) (mfo : Nat) (t : Nat → Nat) (rz : Nat → Nat) (rl : Nat → Int32) (rd : Nat → Bool) (fs : Nat → Nat) (fz : Nat → Nat) (fl : Nat → Int32) (lb : Nat → Bool) (ad : Nat → Bool) (nu : Nat → Nat) (gz : Nat → Nat) (gs : Nat → Nat) (gl : Nat → Int32) (dd : Nat → Bool) (FF : pt_Y) (dl : Nat → Bool) (SS : pt_T) (hmf : mhf = true) (hty : mty ≤ 250) (ht : ∀ j, t j < 256) (hFF : pt_pck t mty 16 0 0 gz gs gl dd = FF) (hF : FF.1 = true) (hb16 : mba ≤ 16) (h16 : ∀ j, fs j < 65536) (hSS : pt_set FF.2.2.1 FF.2.2.2.1 FF.2.2.2.2.1 FF.2.2.2.2.2 FF.2.1 1 (2 ^ (mba + 1) - 2) mba fz fs fl 0 true dl nu = SS) : Met l yn_Mo_proof (Cond.code yn_Mo_proof bc_Mo_proof 4 (some .int) :: kx_all) ({ frames := 3, cells := 0, slots := 0, locals := 65 } : Room) (kp [.ref o, .int (kb_i true)] D cI cZ [mo_c o mth mty x0 mat mfr mto mgd mrd x1 x2 x3 mhf mhp mcl mck mba mct x4 x5 x6 x7 x8 mst x9 x10 x11 x12 mtr mrs x13 x14 x15 x16 mwr x17 mfo, ar_n cI x0 250 t, ar_n cI x1 16 rz, ar_i cI x2 128 rl, ar_b cZ x3 16 rd, ar_n cI x4 33 fs, ar_n cI x5 33 fz, ar_i cI x6 264 fl, ar_b cZ x7 33 lb, ar_b cZ x9 17 ad, ar_n cI x10 17 nu] sz) (kw_e (some (.int (nI FF.2.1))) D kc_l (fun ex : { e : Nat × Nat × Nat × Bool × (Nat → Nat) × (Nat → Int32) × (Nat → Bool) × (Nat → Bool) × (Nat → Bool) // ∀ i, 1 ≤ i → i ≤ SS.2.2.2.2.1 → e.2.2.2.2.2.2.2.1 i = !SS.2.2.2.2.2.2.1 i } => [mo_c o 0 0 x0 ex.1.1 ex.1.2.1 ex.1.2.2.1 ex.1.2.2.2.1 FF.2.1 x1 x2 x3 mhf true ((!SS.2.2.2.2.2.1)) false mba SS.1 x4 x5 x6 x7 x8 SS.2.2.2.2.1 x9 x10 x11 x12 mtr mrs x13 x14 x15 x16 mwr x17 mfo, ar_n cI x0 250 t, ar_n cI x1 16 ex.1.2.2.2.2.1, ar_i cI x2 128 ex.1.2.2.2.2.2.1, ar_b cZ x3 16 ex.1.2.2.2.2.2.2.1, ar_n cI x4 33 SS.2.2.1, ar_n cI x5 33 SS.2.1, ar_i cI x6 264 SS.2.2.2.1, ar_b cZ x7 33 ex.1.2.2.2.2.2.2.2.2, ar_b cZ x9 17 ex.1.2.2.2.2.2.2.2.1, ar_n cI x10 17 SS.2.2.2.2.2.2.2]) (va_A [mo_c o mth mty x0 mat mfr mto mgd mrd x1 x2 x3 mhf mhp mcl mck mba mct x4 x5 x6 x7 x8 mst x9 x10 x11 x12 mtr mrs x13 x14 x15 x16 mwr x17 mfo, ar_n cI x0 250 t, ar_n cI x1 16 rz, ar_i cI x2 128 rl, ar_b cZ x3 16 rd, ar_n cI x4 33 fs, ar_n cI x5 33 fz, ar_i cI x6 264 fl, ar_b cZ x7 33 lb, ar_b cZ x9 17 ad, ar_n cI x10 17 nu] sz)) 0 0 (va_A [mo_c o mth mty x0 mat mfr mto mgd mrd x1 x2 x3 mhf mhp mcl mck mba mct x4 x5 x6 x7 x8 mst x9 x10 x11 x12 mtr mrs x13 x14 x15 x16 mwr x17 mfo, ar_n cI x0 250 t, ar_n cI x1 16 rz, ar_i cI x2 128 rl, ar_b cZ x3 16 rd, ar_n cI x4 33 fs, ar_n cI x5 33 fz, ar_i cI x6 264 fl, ar_b cZ x7 33 lb, ar_b cZ x9 17 ad, ar_n cI x10 17 nu] sz) := by
  refine kx_metE (by decide) (Nat.le_of_ble_eq_true rfl) ?_
  intro p e s m below meth c ls A hx hb hr hml hts hown hlocks hin hA hP hK hD hN hl hS
  have hown : s.vm.findClass rn_Mo = some m.cls := hown
  have hl : lv_has ls 4 [(0, .ref o), (1, .int (kb_i true))] := hl
  obtain ⟨hrk, hr16, -⟩ := (show pt_rk FF.2.1 FF.2.2.1 FF.2.2.2.1 FF.2.2.2.2.1 ∧ FF.2.1 ≤ 16 ∧ _ by rw [← hFF]; exact pck_rk 16 0 0 gz gs gl dd rk_0)
  refine lv_aload_n hx hb dc_Mo_proof_0 rfl (lv_at hl 0 rfl) ?_
  refine lv_iconst (v := nI 0) hx hb dc_Mo_proof_1 (by decide +kernel) ?_
  refine va_put (ci := 10) (v := .int (nI 0)) (ty := .int) (C := rn_Mo) (T := fd_Mo) (N := 36) hx hb hts in_Mo ty_Mo tk_Mo nm_Mo hown hK hP hD hS 0 rfl rfl 0 (by decide) (hts _ wd_746) (fun _ h9 => h9) rfl (by decide +kernel) rfl rfl (Nat.le_of_ble_eq_true rfl) dc_Mo_proof_2 (fun H locs hP hD hS => ?_)
  have hP : va_P D kc_l [mo_c o 0 mty x0 mat mfr mto mgd mrd x1 x2 x3 mhf mhp mcl mck mba mct x4 x5 x6 x7 x8 mst x9 x10 x11 x12 mtr mrs x13 x14 x15 x16 mwr x17 mfo, ar_n cI x0 250 t, ar_n cI x1 16 rz, ar_i cI x2 128 rl, ar_b cZ x3 16 rd, ar_n cI x4 33 fs, ar_n cI x5 33 fz, ar_i cI x6 264 fl, ar_b cZ x7 33 lb, ar_b cZ x9 17 ad, ar_n cI x10 17 nu] H := hP
  have hD : va_D A [mo_c o 0 mty x0 mat mfr mto mgd mrd x1 x2 x3 mhf mhp mcl mck mba mct x4 x5 x6 x7 x8 mst x9 x10 x11 x12 mtr mrs x13 x14 x15 x16 mwr x17 mfo, ar_n cI x0 250 t, ar_n cI x1 16 rz, ar_i cI x2 128 rl, ar_b cZ x3 16 rd, ar_n cI x4 33 fs, ar_n cI x5 33 fz, ar_i cI x6 264 fl, ar_b cZ x7 33 lb, ar_b cZ x9 17 ad, ar_n cI x10 17 nu] := hD
  refine lv_aload_n hx hb dc_Mo_proof_5 rfl (lv_at hl 0 rfl) ?_
  refine va_get (ci := 10) (v := .int (kb_i mhf)) (C := rn_Mo) (T := fd_Mo) (N := 36) hx hb hts in_Mo hown hK hP 0 rfl rfl 11 (by decide) (hts _ wd_757) (fun _ h9 => h9) rfl dc_Mo_proof_6 ?_
  refine kb_if_ne hx hb dc_Mo_proof_9 rfl (fun hc9 => ?_) (fun hc9 => ?_)
  · refine lv_iload_n hx hb dc_Mo_proof_18 rfl (lv_at hl 1 rfl) ?_
    refine kb_if_eq hx hb dc_Mo_proof_19 rfl (fun hc19 => ?_) (fun hc19 => ?_)
    · exact absurd hc19 (by decide)
    · refine lv_aload_n hx hb dc_Mo_proof_22 rfl (lv_at hl 0 rfl) ?_
      refine kw_callE1 (wr := [ar_n cI x4 33 fs, ar_n cI x5 33 fz, ar_i cI x6 264 fl, ar_b cZ x7 33 lb, ar_b cZ x9 17 ad, ar_n cI x10 17 nu]) (w1 := fun ex_1 : { e : Bool × Nat × (Nat → Nat) × (Nat → Int32) × (Nat → Bool) // (pt_pck t mty 16 0 0 gz gs gl dd).1 = true → e.2.1 = (pt_pck t mty 16 0 0 gz gs gl dd).2.1 ∧ pt_rel (pt_pck t mty 16 0 0 gz gs gl dd).2.1 (pt_pck t mty 16 0 0 gz gs gl dd).2.2.1 (pt_pck t mty 16 0 0 gz gs gl dd).2.2.2.2.1 e.2.2.1 e.2.2.2.1 ∧ ∀ i, i < (pt_pck t mty 16 0 0 gz gs gl dd).2.1 → e.2.2.2.2 i = (pt_pck t mty 16 0 0 gz gs gl dd).2.2.2.2.2 (i + 1) } => [mo_c o 0 mty x0 mat mfr mto ex_1.1.1 ex_1.1.2.1 x1 x2 x3 mhf mhp mcl mck mba mct x4 x5 x6 x7 x8 mst x9 x10 x11 x12 mtr mrs x13 x14 x15 x16 mwr x17 mfo, ar_n cI x0 250 t, ar_n cI x1 16 ex_1.1.2.2.1, ar_i cI x2 128 ex_1.1.2.2.2.1, ar_b cZ x3 16 ex_1.1.2.2.2.2]) (ws' := fun ex_1 : { e : Bool × Nat × (Nat → Nat) × (Nat → Int32) × (Nat → Bool) // (pt_pck t mty 16 0 0 gz gs gl dd).1 = true → e.2.1 = (pt_pck t mty 16 0 0 gz gs gl dd).2.1 ∧ pt_rel (pt_pck t mty 16 0 0 gz gs gl dd).2.1 (pt_pck t mty 16 0 0 gz gs gl dd).2.2.1 (pt_pck t mty 16 0 0 gz gs gl dd).2.2.2.2.1 e.2.2.1 e.2.2.2.1 ∧ ∀ i, i < (pt_pck t mty 16 0 0 gz gs gl dd).2.1 → e.2.2.2.2 i = (pt_pck t mty 16 0 0 gz gs gl dd).2.2.2.2.2 (i + 1) } => [mo_c o 0 mty x0 mat mfr mto ex_1.1.1 ex_1.1.2.1 x1 x2 x3 mhf mhp mcl mck mba mct x4 x5 x6 x7 x8 mst x9 x10 x11 x12 mtr mrs x13 x14 x15 x16 mwr x17 mfo, ar_n cI x0 250 t, ar_n cI x1 16 ex_1.1.2.2.1, ar_i cI x2 128 ex_1.1.2.2.2.1, ar_b cZ x3 16 ex_1.1.2.2.2.2, ar_n cI x4 33 fs, ar_n cI x5 33 fz, ar_i cI x6 264 fl, ar_b cZ x7 33 lb, ar_b cZ x9 17 ad, ar_n cI x10 17 nu]) (va_runV (As := []) (rest := []) ⟨hx, hb, hml, hown, hts⟩ (ct_Mo_readPacked l D cI cZ _ o 0 mty x0 mat mfr mto mgd mrd x1 x2 x3 mhf mhp mcl mck mba mct x4 x5 x6 x7 x8 mst x9 x10 x11 x12 mtr mrs x13 x14 x15 x16 mwr x17 mfo t rz rl rd gz gs gl dd (hty) (ht)) (cwV 0 hts (kx_gV wd_922 wd_924 (kx_sel (q := (yn_Mo_readPacked, 36)) (List.mem_append_right _ (List.mem_append_left _ (List.mem_of_getElem? (i := 6) rfl)))) wd_9 wd_925) rfl rfl rfl ⟨rfl, yd_Mo_readPacked⟩ ⟨Nat.le_of_ble_eq_true rfl, Nat.le_of_ble_eq_true rfl⟩) (kp_V (q0 := 0) (ci := 10) hP hD hK hN [0, 1, 2, 3, 4] rfl rfl rfl rfl rfl) rfl rfl hl.1 rfl (lv_room (Nat.le_of_ble_eq_true rfl)) dc_Mo_proof_23 ⟨Nat.le_of_ble_eq_true rfl, Nat.le_of_ble_eq_true rfl⟩) hP hD hS hA [0, 1, 2, 3, 4] [5, 6, 7, 8, 9, 10] [6, 7, 8, 9, 10, 0, 1, 2, 3, 4, 5] rfl rfl rfl (by decide) (fun _ => rfl) rfl (fun ex_1 H locs hP hD hS => ?_)
      refine lv_goto hx hb dc_Mo_proof_26 rfl ?_
      obtain ⟨⟨e1_1, e1_2, e1_3, e1_4, e1_5⟩, hex_1⟩ := ex_1
      dsimp only at hP hD hex_1
      rw [hFF] at hex_1
      obtain ⟨hrd, hrel, hdd⟩ := hex_1 hF
      subst hrd
      refine kn_top (y := kb_i true) (by rw [hFF, hF]) ?_
      refine lv_istore_n (lv' := [(2, .int (kb_i true)), (0, .ref o), (1, .int (kb_i true))]) hx hb dc_Mo_proof_33 rfl hl (by decide) rfl (fun ls hl => ?_)
      refine lv_iload_n hx hb dc_Mo_proof_34 rfl (lv_at hl 0 rfl) ?_
      refine kb_if_ne hx hb dc_Mo_proof_35 rfl (fun hc35 => ?_) (fun hc35 => ?_)
      · refine lv_aload_n hx hb dc_Mo_proof_44 rfl (lv_at hl 1 rfl) ?_
        refine lv_iconst (v := nI 0) hx hb dc_Mo_proof_45 (by decide +kernel) ?_
        refine va_put (ci := 10) (v := .int (nI 0)) (ty := .int) (C := rn_Mo) (T := fd_Mo) (N := 36) hx hb hts in_Mo ty_Mo tk_Mo nm_Mo hown hK hP hD hS 0 rfl rfl 1 (by decide) (hts _ wd_747) (fun _ h9 => h9) rfl (by decide +kernel) rfl rfl (Nat.le_of_ble_eq_true rfl) dc_Mo_proof_46 (fun H locs hP hD hS => ?_)
        have hP : va_P D kc_l [mo_c o 0 0 x0 mat mfr mto e1_1 FF.2.1 x1 x2 x3 mhf mhp mcl mck mba mct x4 x5 x6 x7 x8 mst x9 x10 x11 x12 mtr mrs x13 x14 x15 x16 mwr x17 mfo, ar_n cI x0 250 t, ar_n cI x1 16 e1_3, ar_i cI x2 128 e1_4, ar_b cZ x3 16 e1_5, ar_n cI x4 33 fs, ar_n cI x5 33 fz, ar_i cI x6 264 fl, ar_b cZ x7 33 lb, ar_b cZ x9 17 ad, ar_n cI x10 17 nu] H := hP
        have hD : va_D A [mo_c o 0 0 x0 mat mfr mto e1_1 FF.2.1 x1 x2 x3 mhf mhp mcl mck mba mct x4 x5 x6 x7 x8 mst x9 x10 x11 x12 mtr mrs x13 x14 x15 x16 mwr x17 mfo, ar_n cI x0 250 t, ar_n cI x1 16 e1_3, ar_i cI x2 128 e1_4, ar_b cZ x3 16 e1_5, ar_n cI x4 33 fs, ar_n cI x5 33 fz, ar_i cI x6 264 fl, ar_b cZ x7 33 lb, ar_b cZ x9 17 ad, ar_n cI x10 17 nu] := hD
        refine lv_aload_n hx hb dc_Mo_proof_49 rfl (lv_at hl 1 rfl) ?_
        refine lv_iconst (v := nI 1) hx hb dc_Mo_proof_50 (by decide +kernel) ?_
        refine kn_top (y := kb_i true) (by decide +kernel) ?_
        refine va_put (ci := 10) (v := .int (kb_i true)) (ty := .boolean) (C := rn_Mo) (T := fd_Mo) (N := 36) hx hb hts in_Mo ty_Mo tk_Mo nm_Mo hown hK hP hD hS 0 rfl rfl 12 (by decide) (hts _ wd_758) (fun _ h9 => h9) rfl (by decide +kernel) (kb_nar _) (kb_fit _) (Nat.le_of_ble_eq_true rfl) dc_Mo_proof_51 (fun H locs hP hD hS => ?_)
        have hP : va_P D kc_l [mo_c o 0 0 x0 mat mfr mto e1_1 FF.2.1 x1 x2 x3 mhf true mcl mck mba mct x4 x5 x6 x7 x8 mst x9 x10 x11 x12 mtr mrs x13 x14 x15 x16 mwr x17 mfo, ar_n cI x0 250 t, ar_n cI x1 16 e1_3, ar_i cI x2 128 e1_4, ar_b cZ x3 16 e1_5, ar_n cI x4 33 fs, ar_n cI x5 33 fz, ar_i cI x6 264 fl, ar_b cZ x7 33 lb, ar_b cZ x9 17 ad, ar_n cI x10 17 nu] H := hP
        have hD : va_D A [mo_c o 0 0 x0 mat mfr mto e1_1 FF.2.1 x1 x2 x3 mhf true mcl mck mba mct x4 x5 x6 x7 x8 mst x9 x10 x11 x12 mtr mrs x13 x14 x15 x16 mwr x17 mfo, ar_n cI x0 250 t, ar_n cI x1 16 e1_3, ar_i cI x2 128 e1_4, ar_b cZ x3 16 e1_5, ar_n cI x4 33 fs, ar_n cI x5 33 fz, ar_i cI x6 264 fl, ar_b cZ x7 33 lb, ar_b cZ x9 17 ad, ar_n cI x10 17 nu] := hD
        refine lv_aload_n hx hb dc_Mo_proof_54 rfl (lv_at hl 1 rfl) ?_
        refine lv_iconst (v := nI 0) hx hb dc_Mo_proof_55 (by decide +kernel) ?_
        refine kn_top (y := kb_i false) (by decide +kernel) ?_
        refine va_put (ci := 10) (v := .int (kb_i false)) (ty := .boolean) (C := rn_Mo) (T := fd_Mo) (N := 36) hx hb hts in_Mo ty_Mo tk_Mo nm_Mo hown hK hP hD hS 0 rfl rfl 14 (by decide) (hts _ wd_760) (fun _ h9 => h9) rfl (by decide +kernel) (kb_nar _) (kb_fit _) (Nat.le_of_ble_eq_true rfl) dc_Mo_proof_56 (fun H locs hP hD hS => ?_)
        have hP : va_P D kc_l [mo_c o 0 0 x0 mat mfr mto e1_1 FF.2.1 x1 x2 x3 mhf true mcl false mba mct x4 x5 x6 x7 x8 mst x9 x10 x11 x12 mtr mrs x13 x14 x15 x16 mwr x17 mfo, ar_n cI x0 250 t, ar_n cI x1 16 e1_3, ar_i cI x2 128 e1_4, ar_b cZ x3 16 e1_5, ar_n cI x4 33 fs, ar_n cI x5 33 fz, ar_i cI x6 264 fl, ar_b cZ x7 33 lb, ar_b cZ x9 17 ad, ar_n cI x10 17 nu] H := hP
        have hD : va_D A [mo_c o 0 0 x0 mat mfr mto e1_1 FF.2.1 x1 x2 x3 mhf true mcl false mba mct x4 x5 x6 x7 x8 mst x9 x10 x11 x12 mtr mrs x13 x14 x15 x16 mwr x17 mfo, ar_n cI x0 250 t, ar_n cI x1 16 e1_3, ar_i cI x2 128 e1_4, ar_b cZ x3 16 e1_5, ar_n cI x4 33 fs, ar_n cI x5 33 fz, ar_i cI x6 264 fl, ar_b cZ x7 33 lb, ar_b cZ x9 17 ad, ar_n cI x10 17 nu] := hD
        refine lv_aload_n hx hb dc_Mo_proof_59 rfl (lv_at hl 1 rfl) ?_
        refine lv_iconst (v := nI 0) hx hb dc_Mo_proof_60 (by decide +kernel) ?_
        refine kn_top (y := kb_i false) (by decide +kernel) ?_
        refine va_put (ci := 10) (v := .int (kb_i false)) (ty := .boolean) (C := rn_Mo) (T := fd_Mo) (N := 36) hx hb hts in_Mo ty_Mo tk_Mo nm_Mo hown hK hP hD hS 0 rfl rfl 13 (by decide) (hts _ wd_759) (fun _ h9 => h9) rfl (by decide +kernel) (kb_nar _) (kb_fit _) (Nat.le_of_ble_eq_true rfl) dc_Mo_proof_61 (fun H locs hP hD hS => ?_)
        have hP : va_P D kc_l [mo_c o 0 0 x0 mat mfr mto e1_1 FF.2.1 x1 x2 x3 mhf true false false mba mct x4 x5 x6 x7 x8 mst x9 x10 x11 x12 mtr mrs x13 x14 x15 x16 mwr x17 mfo, ar_n cI x0 250 t, ar_n cI x1 16 e1_3, ar_i cI x2 128 e1_4, ar_b cZ x3 16 e1_5, ar_n cI x4 33 fs, ar_n cI x5 33 fz, ar_i cI x6 264 fl, ar_b cZ x7 33 lb, ar_b cZ x9 17 ad, ar_n cI x10 17 nu] H := hP
        have hD : va_D A [mo_c o 0 0 x0 mat mfr mto e1_1 FF.2.1 x1 x2 x3 mhf true false false mba mct x4 x5 x6 x7 x8 mst x9 x10 x11 x12 mtr mrs x13 x14 x15 x16 mwr x17 mfo, ar_n cI x0 250 t, ar_n cI x1 16 e1_3, ar_i cI x2 128 e1_4, ar_b cZ x3 16 e1_5, ar_n cI x4 33 fs, ar_n cI x5 33 fz, ar_i cI x6 264 fl, ar_b cZ x7 33 lb, ar_b cZ x9 17 ad, ar_n cI x10 17 nu] := hD
        refine lv_aload_n hx hb dc_Mo_proof_64 rfl (lv_at hl 1 rfl) ?_
        refine lv_aload_n hx hb dc_Mo_proof_65 rfl (lv_at hl 1 rfl) ?_
        refine va_get (ci := 10) (v := .int (nI mba)) (C := rn_Mo) (T := fd_Mo) (N := 36) hx hb hts in_Mo hown hK hP 0 rfl rfl 15 (by decide) (hts _ wd_761) (fun _ h9 => h9) rfl dc_Mo_proof_66 ?_
        refine va_put (ci := 10) (v := .int (nI mba)) (ty := .int) (C := rn_Mo) (T := fd_Mo) (N := 36) hx hb hts in_Mo ty_Mo tk_Mo nm_Mo hown hK hP hD hS 0 rfl rfl 16 (by decide) (hts _ wd_762) (fun _ h9 => h9) rfl (by decide +kernel) rfl rfl (Nat.le_of_ble_eq_true rfl) dc_Mo_proof_69 (fun H locs hP hD hS => ?_)
        have hP : va_P D kc_l [mo_c o 0 0 x0 mat mfr mto e1_1 FF.2.1 x1 x2 x3 mhf true false false mba mba x4 x5 x6 x7 x8 mst x9 x10 x11 x12 mtr mrs x13 x14 x15 x16 mwr x17 mfo, ar_n cI x0 250 t, ar_n cI x1 16 e1_3, ar_i cI x2 128 e1_4, ar_b cZ x3 16 e1_5, ar_n cI x4 33 fs, ar_n cI x5 33 fz, ar_i cI x6 264 fl, ar_b cZ x7 33 lb, ar_b cZ x9 17 ad, ar_n cI x10 17 nu] H := hP
        have hD : va_D A [mo_c o 0 0 x0 mat mfr mto e1_1 FF.2.1 x1 x2 x3 mhf true false false mba mba x4 x5 x6 x7 x8 mst x9 x10 x11 x12 mtr mrs x13 x14 x15 x16 mwr x17 mfo, ar_n cI x0 250 t, ar_n cI x1 16 e1_3, ar_i cI x2 128 e1_4, ar_b cZ x3 16 e1_5, ar_n cI x4 33 fs, ar_n cI x5 33 fz, ar_i cI x6 264 fl, ar_b cZ x7 33 lb, ar_b cZ x9 17 ad, ar_n cI x10 17 nu] := hD
        refine lv_aload_n hx hb dc_Mo_proof_72 rfl (lv_at hl 1 rfl) ?_
        refine lv_iconst (v := nI 0) hx hb dc_Mo_proof_73 (by decide +kernel) ?_
        refine va_put (ci := 10) (v := .int (nI 0)) (ty := .int) (C := rn_Mo) (T := fd_Mo) (N := 36) hx hb hts in_Mo ty_Mo tk_Mo nm_Mo hown hK hP hD hS 0 rfl rfl 22 (by decide) (hts _ wd_768) (fun _ h9 => h9) rfl (by decide +kernel) rfl rfl (Nat.le_of_ble_eq_true rfl) dc_Mo_proof_74 (fun H locs hP hD hS => ?_)
        have hP : va_P D kc_l [mo_c o 0 0 x0 mat mfr mto e1_1 FF.2.1 x1 x2 x3 mhf true false false mba mba x4 x5 x6 x7 x8 0 x9 x10 x11 x12 mtr mrs x13 x14 x15 x16 mwr x17 mfo, ar_n cI x0 250 t, ar_n cI x1 16 e1_3, ar_i cI x2 128 e1_4, ar_b cZ x3 16 e1_5, ar_n cI x4 33 fs, ar_n cI x5 33 fz, ar_i cI x6 264 fl, ar_b cZ x7 33 lb, ar_b cZ x9 17 ad, ar_n cI x10 17 nu] H := hP
        have hD : va_D A [mo_c o 0 0 x0 mat mfr mto e1_1 FF.2.1 x1 x2 x3 mhf true false false mba mba x4 x5 x6 x7 x8 0 x9 x10 x11 x12 mtr mrs x13 x14 x15 x16 mwr x17 mfo, ar_n cI x0 250 t, ar_n cI x1 16 e1_3, ar_i cI x2 128 e1_4, ar_b cZ x3 16 e1_5, ar_n cI x4 33 fs, ar_n cI x5 33 fz, ar_i cI x6 264 fl, ar_b cZ x7 33 lb, ar_b cZ x9 17 ad, ar_n cI x10 17 nu] := hD
        refine lv_aload_n hx hb dc_Mo_proof_77 rfl (lv_at hl 1 rfl) ?_
        refine kw_call0 (wr := [ar_n cI x0 250 t, ar_n cI x1 16 e1_3, ar_i cI x2 128 e1_4, ar_b cZ x3 16 e1_5, ar_n cI x4 33 fs, ar_n cI x5 33 fz, ar_i cI x6 264 fl, ar_b cZ x9 17 ad, ar_n cI x10 17 nu]) (ws' := [mo_c o 0 0 x0 mat mfr mto e1_1 FF.2.1 x1 x2 x3 mhf true false false mba mba x4 x5 x6 x7 x8 0 x9 x10 x11 x12 mtr mrs x13 x14 x15 x16 mwr x17 mfo, ar_n cI x0 250 t, ar_n cI x1 16 e1_3, ar_i cI x2 128 e1_4, ar_b cZ x3 16 e1_5, ar_n cI x4 33 fs, ar_n cI x5 33 fz, ar_i cI x6 264 fl, ar_b cZ x7 33 (pt_fst lb mba 33), ar_b cZ x9 17 ad, ar_n cI x10 17 nu]) (va_runV (As := []) (rest := []) ⟨hx, hb, hml, hown, hts⟩ (ct_Mo_first l D cI cZ _ o 0 0 x0 mat mfr mto e1_1 FF.2.1 x1 x2 x3 mhf true false false mba mba x4 x5 x6 x7 x8 0 x9 x10 x11 x12 mtr mrs x13 x14 x15 x16 mwr x17 mfo lb (by omega)) (cwV 0 hts (kx_gV wd_930 wd_932 (kx_sel (q := (yn_Mo_first, 36)) (List.mem_append_right _ (List.mem_append_left _ (List.mem_of_getElem? (i := 8) rfl)))) wd_9 wd_933) rfl rfl rfl ⟨rfl, yd_Mo_first⟩ ⟨Nat.le_of_ble_eq_true rfl, Nat.le_of_ble_eq_true rfl⟩) (kp_V (q0 := 0) (ci := 10) hP hD hK hN [0, 8] rfl rfl rfl rfl rfl) rfl rfl hl.1 rfl (lv_room (Nat.le_of_ble_eq_true rfl)) dc_Mo_proof_78 ⟨Nat.le_of_ble_eq_true rfl, Nat.le_of_ble_eq_true rfl⟩) hP hD hS hA [0, 8] [1, 2, 3, 4, 5, 6, 7, 9, 10] [9, 0, 1, 2, 3, 4, 5, 6, 10, 7, 8] rfl rfl rfl (by decide) rfl rfl (fun H locs hP hD hS => ?_)
        refine lv_iconst (v := nI 0) hx hb dc_Mo_proof_81 (by decide +kernel) ?_
        refine lv_istore_n (lv' := [(3, .int (nI 0)), (2, .int (kb_i true)), (0, .ref o), (1, .int (kb_i true))]) hx hb dc_Mo_proof_82 rfl hl (by decide) rfl (fun ls hl => ?_)
        have lp_83 : ∀ (K : Nat) (k : Nat) (lv : Nat) (n1 : Nat) (fz1 : Nat → Nat) (fs1 : Nat → Nat) (fl1 : Nat → Int32) (op1 : Bool) (dl1 : Nat → Bool) (nu1 : Nat → Nat) (cl1 : Bool) (lb1 : Nat → Bool) (ad1 : Nat → Bool) (H : Heap) (locs : List Loc) (ls : Array Slot), FF.2.1 - k < K → va_P D kc_l [mo_c o 0 0 x0 mat mfr mto e1_1 FF.2.1 x1 x2 x3 mhf true cl1 false mba n1 x4 x5 x6 x7 x8 k x9 x10 x11 x12 mtr mrs x13 x14 x15 x16 mwr x17 mfo, ar_n cI x0 250 t, ar_n cI x1 16 e1_3, ar_i cI x2 128 e1_4, ar_b cZ x3 16 e1_5, ar_n cI x4 33 fs1, ar_n cI x5 33 fz1, ar_i cI x6 264 fl1, ar_b cZ x7 33 lb1, ar_b cZ x9 17 ad1, ar_n cI x10 17 nu1] H → va_D A [mo_c o 0 0 x0 mat mfr mto e1_1 FF.2.1 x1 x2 x3 mhf true cl1 false mba n1 x4 x5 x6 x7 x8 k x9 x10 x11 x12 mtr mrs x13 x14 x15 x16 mwr x17 mfo, ar_n cI x0 250 t, ar_n cI x1 16 e1_3, ar_i cI x2 128 e1_4, ar_b cZ x3 16 e1_5, ar_n cI x4 33 fs1, ar_n cI x5 33 fz1, ar_i cI x6 264 fl1, ar_b cZ x7 33 lb1, ar_b cZ x9 17 ad1, ar_n cI x10 17 nu1] → va_S A s.heap H locs → lv_has ls 4 [(3, .int (nI k)), (2, .int (kb_i true)), (0, .ref o), (1, .int (kb_i true))] → (pt_set FF.2.2.1 FF.2.2.2.1 FF.2.2.2.2.1 FF.2.2.2.2.2 (FF.2.1 - k) (k + 1) lv n1 fz1 fs1 fl1 k op1 dl1 nu1 = SS) → (k ≤ FF.2.1) → (mba ≤ n1 ∧ n1 ≤ mba + k) → (cl1 = !op1) → (∀ j, 1 ≤ j → j ≤ 32 → lb1 j = lv.testBit j) → (∀ j, fs1 j < 65536) → (∀ i, 1 ≤ i → i ≤ k → ad1 i = !dl1 i) → W p l e ({ frames := 3, cells := 0, slots := 0, locals := 65 } : Room) s m ([.ref o, .int (kb_i true)] : List Value).toArray below meth c H locs 0 0 (MQ below (kw_e (some (.int (nI FF.2.1))) D kc_l (fun ex : { e : Nat × Nat × Nat × Bool × (Nat → Nat) × (Nat → Int32) × (Nat → Bool) × (Nat → Bool) × (Nat → Bool) // ∀ i, 1 ≤ i → i ≤ SS.2.2.2.2.1 → e.2.2.2.2.2.2.2.1 i = !SS.2.2.2.2.2.2.1 i } => [mo_c o 0 0 x0 ex.1.1 ex.1.2.1 ex.1.2.2.1 ex.1.2.2.2.1 FF.2.1 x1 x2 x3 mhf true ((!SS.2.2.2.2.2.1)) false mba SS.1 x4 x5 x6 x7 x8 SS.2.2.2.2.1 x9 x10 x11 x12 mtr mrs x13 x14 x15 x16 mwr x17 mfo, ar_n cI x0 250 t, ar_n cI x1 16 ex.1.2.2.2.2.1, ar_i cI x2 128 ex.1.2.2.2.2.2.1, ar_b cZ x3 16 ex.1.2.2.2.2.2.2.1, ar_n cI x4 33 SS.2.2.1, ar_n cI x5 33 SS.2.1, ar_i cI x6 264 SS.2.2.2.1, ar_b cZ x7 33 ex.1.2.2.2.2.2.2.2.2, ar_b cZ x9 17 ex.1.2.2.2.2.2.2.2.1, ar_n cI x10 17 SS.2.2.2.2.2.2.2]) A) ([.ref o, .int (kb_i true)] : List Value).toArray s 0 0 A) (F0 m 83 ls []) := by
          intro K
          induction K with
          | zero =>
            intro k lv n1 fz1 fs1 fl1 op1 dl1 nu1 cl1 lb1 ad1 H locs ls hk
            exact absurd hk (Nat.not_lt_zero _)
          | succ K ih_83 =>
            intro k lv n1 fz1 fs1 fl1 op1 dl1 nu1 cl1 lb1 ad1 H locs ls hk hP hD hS hl h1 h2 hn1 hcl hlb h161 had
            refine lv_iload_n hx hb dc_Mo_proof_83 rfl (lv_at hl 0 rfl) ?_
            refine lv_aload_n hx hb dc_Mo_proof_84 rfl (lv_at hl 2 rfl) ?_
            refine va_get (ci := 10) (v := .int (nI FF.2.1)) (C := rn_Mo) (T := fd_Mo) (N := 36) hx hb hts in_Mo hown hK hP 0 rfl rfl 7 (by decide) (hts _ wd_753) (fun _ h9 => h9) rfl dc_Mo_proof_85 ?_
            refine kn_icmp_ge hx hb (by omega) (by omega) dc_Mo_proof_88 rfl (fun hc88 => ?_) (fun hc88 => ?_)
            · have hend : (n1, fz1, fs1, fl1, k, op1, dl1, nu1) = SS := by rw [← h1]; exact (set_en (Or.inl (by omega))).symm
              subst hend
              refine lv_aload_n hx hb dc_Mo_proof_231 rfl (lv_at hl 2 rfl) ?_
              refine va_get (ci := 10) (v := .int (nI FF.2.1)) (C := rn_Mo) (T := fd_Mo) (N := 36) hx hb hts in_Mo hown hK hP 0 rfl rfl 7 (by decide) (hts _ wd_753) (fun _ h9 => h9) rfl dc_Mo_proof_232 ?_
              exact ke_iret (x := ⟨(mat, mfr, mto, e1_1, e1_3, e1_4, e1_5, ad1, lb1), had⟩) hx hb hr hlocks hP hD hS dc_Mo_proof_235 (rfl) (by rw [hcl])
            · refine lv_aload_n hx hb dc_Mo_proof_91 rfl (lv_at hl 2 rfl) ?_
              refine va_get (ci := 10) (v := .int (kb_i cl1)) (C := rn_Mo) (T := fd_Mo) (N := 36) hx hb hts in_Mo hown hK hP 0 rfl rfl 13 (by decide) (hts _ wd_759) (fun _ h9 => h9) rfl dc_Mo_proof_92 ?_
              refine kb_if_ne hx hb dc_Mo_proof_95 rfl (fun hc95 => ?_) (fun hc95 => ?_)
              · have hend : (n1, fz1, fs1, fl1, k, op1, dl1, nu1) = SS := by rw [← h1]; exact (set_en (Or.inr (by cases hq : op1 with | false => rfl | true => rw [hq] at hcl; rw [hcl] at hc95; exact absurd hc95 (by decide)))).symm
                subst hend
                refine lv_aload_n hx hb dc_Mo_proof_231 rfl (lv_at hl 2 rfl) ?_
                refine va_get (ci := 10) (v := .int (nI FF.2.1)) (C := rn_Mo) (T := fd_Mo) (N := 36) hx hb hts in_Mo hown hK hP 0 rfl rfl 7 (by decide) (hts _ wd_753) (fun _ h9 => h9) rfl dc_Mo_proof_232 ?_
                exact ke_iret (x := ⟨(mat, mfr, mto, e1_1, e1_3, e1_4, e1_5, ad1, lb1), had⟩) hx hb hr hlocks hP hD hS dc_Mo_proof_235 (rfl) (by rw [hcl])
              · have hop : op1 = true := by cases hq : op1 with
                                  | false => rw [hq] at hcl; rw [hcl] at hc95; exact absurd hc95 (by decide)
                                  | true => rfl
                obtain ⟨bb, pm, hrow⟩ := rk_rel hrk hrel (j := k) (by omega)
                rcases hrk1 : e1_5 k with _ | _
                · have hde : FF.2.2.2.2.2 (k + 1) = false := by rw [← hdd k (by omega)]; exact hrk1
                  refine lv_aload_n hx hb dc_Mo_proof_98 rfl (lv_at hl 2 rfl) ?_
                  refine lv_dup hx hb dc_Mo_proof_99 rfl ?_
                  refine va_get (ci := 10) (v := .int (nI k)) (C := rn_Mo) (T := fd_Mo) (N := 36) hx hb hts in_Mo hown hK hP 0 rfl rfl 22 (by decide) (hts _ wd_768) (fun _ h9 => h9) rfl dc_Mo_proof_100 ?_
                  refine lv_iconst (v := nI 1) hx hb dc_Mo_proof_103 (by decide +kernel) ?_
                  refine kn_iadd hx hb dc_Mo_proof_104 ?_
                  refine va_put (ci := 10) (v := .int (nI (k + 1))) (ty := .int) (C := rn_Mo) (T := fd_Mo) (N := 36) hx hb hts in_Mo ty_Mo tk_Mo nm_Mo hown hK hP hD hS 0 rfl rfl 22 (by decide) (hts _ wd_768) (fun _ h9 => h9) rfl (by decide +kernel) rfl rfl (Nat.le_of_ble_eq_true rfl) dc_Mo_proof_105 (fun H locs hP hD hS => ?_)
                  have hP : va_P D kc_l [mo_c o 0 0 x0 mat mfr mto e1_1 FF.2.1 x1 x2 x3 mhf true cl1 false mba n1 x4 x5 x6 x7 x8 (k + 1) x9 x10 x11 x12 mtr mrs x13 x14 x15 x16 mwr x17 mfo, ar_n cI x0 250 t, ar_n cI x1 16 e1_3, ar_i cI x2 128 e1_4, ar_b cZ x3 16 e1_5, ar_n cI x4 33 fs1, ar_n cI x5 33 fz1, ar_i cI x6 264 fl1, ar_b cZ x7 33 lb1, ar_b cZ x9 17 ad1, ar_n cI x10 17 nu1] H := hP
                  have hD : va_D A [mo_c o 0 0 x0 mat mfr mto e1_1 FF.2.1 x1 x2 x3 mhf true cl1 false mba n1 x4 x5 x6 x7 x8 (k + 1) x9 x10 x11 x12 mtr mrs x13 x14 x15 x16 mwr x17 mfo, ar_n cI x0 250 t, ar_n cI x1 16 e1_3, ar_i cI x2 128 e1_4, ar_b cZ x3 16 e1_5, ar_n cI x4 33 fs1, ar_n cI x5 33 fz1, ar_i cI x6 264 fl1, ar_b cZ x7 33 lb1, ar_b cZ x9 17 ad1, ar_n cI x10 17 nu1] := hD
                  refine lv_aload_n hx hb dc_Mo_proof_108 rfl (lv_at hl 2 rfl) ?_
                  refine va_get (ci := 10) (v := .ref x9) (C := rn_Mo) (T := fd_Mo) (N := 36) hx hb hts in_Mo hown hK hP 0 rfl rfl 23 (by decide) (hts _ wd_769) (fun _ h9 => h9) rfl dc_Mo_proof_109 ?_
                  refine lv_aload_n hx hb dc_Mo_proof_112 rfl (lv_at hl 2 rfl) ?_
                  refine va_get (ci := 10) (v := .int (nI (k + 1))) (C := rn_Mo) (T := fd_Mo) (N := 36) hx hb hts in_Mo hown hK hP 0 rfl rfl 22 (by decide) (hts _ wd_768) (fun _ h9 => h9) rfl dc_Mo_proof_113 ?_
                  refine lv_aload_n hx hb dc_Mo_proof_116 rfl (lv_at hl 2 rfl) ?_
                  refine va_get (ci := 10) (v := .ref x3) (C := rn_Mo) (T := fd_Mo) (N := 36) hx hb hts in_Mo hown hK hP 0 rfl rfl 10 (by decide) (hts _ wd_756) (fun _ h9 => h9) rfl dc_Mo_proof_117 ?_
                  refine lv_iload_n hx hb dc_Mo_proof_120 rfl (lv_at hl 0 rfl) ?_
                  refine ka_bald (t := e1_5) hx hb hK hP 4 1 rfl rfl (j := k) (by omega) (by omega) dc_Mo_proof_121 ?_
                  refine kn_top (y := kb_i false) (congrArg kb_i hrk1) ?_
                  refine kb_if_ne hx hb dc_Mo_proof_122 rfl (fun hc122 => ?_) (fun hc122 => ?_)
                  · exact absurd hc122 (by decide)
                  · refine lv_iconst (v := nI 1) hx hb dc_Mo_proof_125 (by decide +kernel) ?_
                    refine lv_goto hx hb dc_Mo_proof_126 rfl ?_
                    refine kn_top (y := kb_i true) (by decide +kernel) ?_
                    refine ka_bast (t := ad1) hx hb hK hP hD hS 9 1 rfl rfl (j := k + 1) (by omega) (by omega) dc_Mo_proof_130 (ws' := [mo_c o 0 0 x0 mat mfr mto e1_1 FF.2.1 x1 x2 x3 mhf true cl1 false mba n1 x4 x5 x6 x7 x8 (k + 1) x9 x10 x11 x12 mtr mrs x13 x14 x15 x16 mwr x17 mfo, ar_n cI x0 250 t, ar_n cI x1 16 e1_3, ar_i cI x2 128 e1_4, ar_b cZ x3 16 e1_5, ar_n cI x4 33 fs1, ar_n cI x5 33 fz1, ar_i cI x6 264 fl1, ar_b cZ x7 33 lb1, ar_b cZ x9 17 (va_up ad1 (k + 1) true), ar_n cI x10 17 nu1]) rfl (fun H locs hP hD hS => ?_)
                    refine lv_aload_n hx hb dc_Mo_proof_131 rfl (lv_at hl 2 rfl) ?_
                    refine va_get (ci := 10) (v := .ref x3) (C := rn_Mo) (T := fd_Mo) (N := 36) hx hb hts in_Mo hown hK hP 0 rfl rfl 10 (by decide) (hts _ wd_756) (fun _ h9 => h9) rfl dc_Mo_proof_132 ?_
                    refine lv_iload_n hx hb dc_Mo_proof_135 rfl (lv_at hl 0 rfl) ?_
                    refine ka_bald (t := e1_5) hx hb hK hP 4 1 rfl rfl (j := k) (by omega) (by omega) dc_Mo_proof_136 ?_
                    refine kn_top (y := kb_i false) (congrArg kb_i hrk1) ?_
                    refine kb_if_eq hx hb dc_Mo_proof_137 rfl (fun hc137 => ?_) (fun hc137 => ?_)
                    · refine lv_aload_n hx hb dc_Mo_proof_176 rfl (lv_at hl 2 rfl) ?_
                      refine lv_iload_n hx hb dc_Mo_proof_177 rfl (lv_at hl 0 rfl) ?_
                      refine kw_call0 (wr := [ar_n cI x0 250 t, ar_b cZ x3 16 e1_5, ar_b cZ x7 33 lb1, ar_b cZ x9 17 (va_up ad1 (k + 1) true), ar_n cI x10 17 nu1]) (ws' := [mo_c o 0 0 x0 mat mfr mto e1_1 FF.2.1 x1 x2 x3 mhf true cl1 false mba (n1 + 1) x4 x5 x6 x7 x8 (k + 1) x9 x10 x11 x12 mtr mrs x13 x14 x15 x16 mwr x17 mfo, ar_n cI x0 250 t, ar_n cI x1 16 e1_3, ar_i cI x2 128 e1_4, ar_b cZ x3 16 e1_5, ar_n cI x4 33 (va_up fs1 (n1 + 1) (FF.2.2.2.1 (k + 1))), ar_n cI x5 33 (va_up fz1 (n1 + 1) (e1_3 k)), ar_i cI x6 264 (va_cpy e1_4 fl1 (8 * k) (8 * (n1 + 1)) (e1_3 k)), ar_b cZ x7 33 lb1, ar_b cZ x9 17 (va_up ad1 (k + 1) true), ar_n cI x10 17 nu1]) (va_runV (As := [.int (nI k)]) (rest := []) ⟨hx, hb, hml, hown, hts⟩ (ct_Mo_make l D cI cZ _ o 0 0 x0 mat mfr mto e1_1 FF.2.1 x1 x2 x3 mhf true cl1 false mba n1 x4 x5 x6 x7 x8 (k + 1) x9 x10 x11 x12 mtr mrs x13 x14 x15 x16 mwr x17 mfo e1_3 e1_4 fz1 fs1 fl1 k bb pm (FF.2.2.2.1 (k + 1)) (by omega) (by omega) (hrow)) (cwV 1 hts (kx_gV wd_907 wd_909 (kx_sel (q := (yn_Mo_make, 36)) (List.mem_append_right _ (List.mem_append_left _ (List.mem_of_getElem? (i := 4) rfl)))) wd_9 wd_910) rfl rfl rfl ⟨rfl, yd_Mo_make⟩ ⟨Nat.le_of_ble_eq_true rfl, Nat.le_of_ble_eq_true rfl⟩) (kp_V (q0 := 0) (ci := 10) hP hD hK hN [0, 2, 3, 6, 5, 7] rfl rfl rfl rfl rfl) rfl rfl hl.1 rfl (lv_room (Nat.le_of_ble_eq_true rfl)) dc_Mo_proof_178 ⟨Nat.le_of_ble_eq_true rfl, Nat.le_of_ble_eq_true rfl⟩) hP hD hS hA [0, 2, 3, 6, 5, 7] [1, 4, 8, 9, 10] [5, 0, 6, 7, 1, 9, 8, 10, 2, 3, 4] rfl rfl rfl (by decide) rfl rfl (fun H locs hP hD hS => ?_)
                      have hP : va_P D kc_l [mo_c o 0 0 x0 mat mfr mto e1_1 FF.2.1 x1 x2 x3 mhf true cl1 false mba (n1 + 1) x4 x5 x6 x7 x8 (k + 1) x9 x10 x11 x12 mtr mrs x13 x14 x15 x16 mwr x17 mfo, ar_n cI x0 250 t, ar_n cI x1 16 e1_3, ar_i cI x2 128 e1_4, ar_b cZ x3 16 e1_5, ar_n cI x4 33 (va_up fs1 (n1 + 1) (FF.2.2.2.1 (k + 1))), ar_n cI x5 33 (va_up fz1 (n1 + 1) (FF.2.2.1 (k + 1))), ar_i cI x6 264 (va_cpy FF.2.2.2.2.1 fl1 ((k + 1) * 8) ((n1 + 1) * 8) (FF.2.2.1 (k + 1))), ar_b cZ x7 33 lb1, ar_b cZ x9 17 (va_up ad1 (k + 1) true), ar_n cI x10 17 nu1] H := by rw [← cpy_rel hrel (by omega), ← (hrel k (by omega)).2.1]; exact hP
                      have hD : va_D A [mo_c o 0 0 x0 mat mfr mto e1_1 FF.2.1 x1 x2 x3 mhf true cl1 false mba (n1 + 1) x4 x5 x6 x7 x8 (k + 1) x9 x10 x11 x12 mtr mrs x13 x14 x15 x16 mwr x17 mfo, ar_n cI x0 250 t, ar_n cI x1 16 e1_3, ar_i cI x2 128 e1_4, ar_b cZ x3 16 e1_5, ar_n cI x4 33 (va_up fs1 (n1 + 1) (FF.2.2.2.1 (k + 1))), ar_n cI x5 33 (va_up fz1 (n1 + 1) (FF.2.2.1 (k + 1))), ar_i cI x6 264 (va_cpy FF.2.2.2.2.1 fl1 ((k + 1) * 8) ((n1 + 1) * 8) (FF.2.2.1 (k + 1))), ar_b cZ x7 33 lb1, ar_b cZ x9 17 (va_up ad1 (k + 1) true), ar_n cI x10 17 nu1] := by rw [← cpy_rel hrel (by omega), ← (hrel k (by omega)).2.1]; exact hD
                      refine lv_aload_n hx hb dc_Mo_proof_181 rfl (lv_at hl 2 rfl) ?_
                      refine va_get (ci := 10) (v := .ref x10) (C := rn_Mo) (T := fd_Mo) (N := 36) hx hb hts in_Mo hown hK hP 0 rfl rfl 24 (by decide) (hts _ wd_770) (fun _ h9 => h9) rfl dc_Mo_proof_182 ?_
                      refine lv_aload_n hx hb dc_Mo_proof_185 rfl (lv_at hl 2 rfl) ?_
                      refine va_get (ci := 10) (v := .int (nI (k + 1))) (C := rn_Mo) (T := fd_Mo) (N := 36) hx hb hts in_Mo hown hK hP 0 rfl rfl 22 (by decide) (hts _ wd_768) (fun _ h9 => h9) rfl dc_Mo_proof_186 ?_
                      refine lv_aload_n hx hb dc_Mo_proof_189 rfl (lv_at hl 2 rfl) ?_
                      refine va_get (ci := 10) (v := .int (nI (n1 + 1))) (C := rn_Mo) (T := fd_Mo) (N := 36) hx hb hts in_Mo hown hK hP 0 rfl rfl 16 (by decide) (hts _ wd_762) (fun _ h9 => h9) rfl dc_Mo_proof_190 ?_
                      refine ka_nast (t := nu1) hx hb hK hP hD hS 10 0 rfl rfl (j := k + 1) (by omega) (by omega) dc_Mo_proof_193 (ws' := [mo_c o 0 0 x0 mat mfr mto e1_1 FF.2.1 x1 x2 x3 mhf true cl1 false mba (n1 + 1) x4 x5 x6 x7 x8 (k + 1) x9 x10 x11 x12 mtr mrs x13 x14 x15 x16 mwr x17 mfo, ar_n cI x0 250 t, ar_n cI x1 16 e1_3, ar_i cI x2 128 e1_4, ar_b cZ x3 16 e1_5, ar_n cI x4 33 (va_up fs1 (n1 + 1) (FF.2.2.2.1 (k + 1))), ar_n cI x5 33 (va_up fz1 (n1 + 1) (FF.2.2.1 (k + 1))), ar_i cI x6 264 (va_cpy FF.2.2.2.2.1 fl1 ((k + 1) * 8) ((n1 + 1) * 8) (FF.2.2.1 (k + 1))), ar_b cZ x7 33 lb1, ar_b cZ x9 17 (va_up ad1 (k + 1) true), ar_n cI x10 17 (va_up nu1 (k + 1) (n1 + 1))]) rfl (fun H locs hP hD hS => ?_)
                      refine lv_aload_n hx hb dc_Mo_proof_194 rfl (lv_at hl 2 rfl) ?_
                      refine va_get (ci := 10) (v := .ref x7) (C := rn_Mo) (T := fd_Mo) (N := 36) hx hb hts in_Mo hown hK hP 0 rfl rfl 20 (by decide) (hts _ wd_766) (fun _ h9 => h9) rfl dc_Mo_proof_195 ?_
                      refine lv_aload_n hx hb dc_Mo_proof_198 rfl (lv_at hl 2 rfl) ?_
                      refine va_get (ci := 10) (v := .int (nI (n1 + 1))) (C := rn_Mo) (T := fd_Mo) (N := 36) hx hb hts in_Mo hown hK hP 0 rfl rfl 16 (by decide) (hts _ wd_762) (fun _ h9 => h9) rfl dc_Mo_proof_199 ?_
                      refine lv_iconst (v := nI 1) hx hb dc_Mo_proof_202 (by decide +kernel) ?_
                      refine kn_top (y := kb_i true) (by decide +kernel) ?_
                      refine ka_bast (t := lb1) hx hb hK hP hD hS 8 1 rfl rfl (j := n1 + 1) (by omega) (by omega) dc_Mo_proof_203 (ws' := [mo_c o 0 0 x0 mat mfr mto e1_1 FF.2.1 x1 x2 x3 mhf true cl1 false mba (n1 + 1) x4 x5 x6 x7 x8 (k + 1) x9 x10 x11 x12 mtr mrs x13 x14 x15 x16 mwr x17 mfo, ar_n cI x0 250 t, ar_n cI x1 16 e1_3, ar_i cI x2 128 e1_4, ar_b cZ x3 16 e1_5, ar_n cI x4 33 (va_up fs1 (n1 + 1) (FF.2.2.2.1 (k + 1))), ar_n cI x5 33 (va_up fz1 (n1 + 1) (FF.2.2.1 (k + 1))), ar_i cI x6 264 (va_cpy FF.2.2.2.2.1 fl1 ((k + 1) * 8) ((n1 + 1) * 8) (FF.2.2.1 (k + 1))), ar_b cZ x7 33 (va_up lb1 (n1 + 1) true), ar_b cZ x9 17 (va_up ad1 (k + 1) true), ar_n cI x10 17 (va_up nu1 (k + 1) (n1 + 1))]) rfl (fun H locs hP hD hS => ?_)
                      refine lv_aload_n hx hb dc_Mo_proof_204 rfl (lv_at hl 2 rfl) ?_
                      refine lv_aload_n hx hb dc_Mo_proof_205 rfl (lv_at hl 2 rfl) ?_
                      refine va_get (ci := 10) (v := .ref x5) (C := rn_Mo) (T := fd_Mo) (N := 36) hx hb hts in_Mo hown hK hP 0 rfl rfl 18 (by decide) (hts _ wd_764) (fun _ h9 => h9) rfl dc_Mo_proof_206 ?_
                      refine lv_aload_n hx hb dc_Mo_proof_209 rfl (lv_at hl 2 rfl) ?_
                      refine va_get (ci := 10) (v := .int (nI (n1 + 1))) (C := rn_Mo) (T := fd_Mo) (N := 36) hx hb hts in_Mo hown hK hP 0 rfl rfl 16 (by decide) (hts _ wd_762) (fun _ h9 => h9) rfl dc_Mo_proof_210 ?_
                      refine ka_nald (t := va_up fz1 (n1 + 1) (FF.2.2.1 (k + 1))) hx hb hK hP 6 0 rfl rfl (j := n1 + 1) (by omega) (by omega) dc_Mo_proof_213 ?_
                      refine kn_top (y := nI (FF.2.2.1 (k + 1))) (congrArg nI (va_up_self _ _ _)) ?_
                      refine kn_if_ne hx hb (by have := rk_8 hrk (i := k + 1) (by omega) (by omega); omega) dc_Mo_proof_214 rfl (fun hc214 => ?_) (fun hc214 => ?_)
                      · refine lv_iconst (v := nI 0) hx hb dc_Mo_proof_221 (by decide +kernel) ?_
                        refine kn_top (y := kb_i false) (by decide +kernel) ?_
                        refine va_put (ci := 10) (v := .int (kb_i false)) (ty := .boolean) (C := rn_Mo) (T := fd_Mo) (N := 36) hx hb hts in_Mo ty_Mo tk_Mo nm_Mo hown hK hP hD hS 0 rfl rfl 13 (by decide) (hts _ wd_759) (fun _ h9 => h9) rfl (by decide +kernel) (kb_nar _) (kb_fit _) (Nat.le_of_ble_eq_true rfl) dc_Mo_proof_222 (fun H locs hP hD hS => ?_)
                        have hP : va_P D kc_l [mo_c o 0 0 x0 mat mfr mto e1_1 FF.2.1 x1 x2 x3 mhf true false false mba (n1 + 1) x4 x5 x6 x7 x8 (k + 1) x9 x10 x11 x12 mtr mrs x13 x14 x15 x16 mwr x17 mfo, ar_n cI x0 250 t, ar_n cI x1 16 e1_3, ar_i cI x2 128 e1_4, ar_b cZ x3 16 e1_5, ar_n cI x4 33 (va_up fs1 (n1 + 1) (FF.2.2.2.1 (k + 1))), ar_n cI x5 33 (va_up fz1 (n1 + 1) (FF.2.2.1 (k + 1))), ar_i cI x6 264 (va_cpy FF.2.2.2.2.1 fl1 ((k + 1) * 8) ((n1 + 1) * 8) (FF.2.2.1 (k + 1))), ar_b cZ x7 33 (va_up lb1 (n1 + 1) true), ar_b cZ x9 17 (va_up ad1 (k + 1) true), ar_n cI x10 17 (va_up nu1 (k + 1) (n1 + 1))] H := hP
                        have hD : va_D A [mo_c o 0 0 x0 mat mfr mto e1_1 FF.2.1 x1 x2 x3 mhf true false false mba (n1 + 1) x4 x5 x6 x7 x8 (k + 1) x9 x10 x11 x12 mtr mrs x13 x14 x15 x16 mwr x17 mfo, ar_n cI x0 250 t, ar_n cI x1 16 e1_3, ar_i cI x2 128 e1_4, ar_b cZ x3 16 e1_5, ar_n cI x4 33 (va_up fs1 (n1 + 1) (FF.2.2.2.1 (k + 1))), ar_n cI x5 33 (va_up fz1 (n1 + 1) (FF.2.2.1 (k + 1))), ar_i cI x6 264 (va_cpy FF.2.2.2.2.1 fl1 ((k + 1) * 8) ((n1 + 1) * 8) (FF.2.2.1 (k + 1))), ar_b cZ x7 33 (va_up lb1 (n1 + 1) true), ar_b cZ x9 17 (va_up ad1 (k + 1) true), ar_n cI x10 17 (va_up nu1 (k + 1) (n1 + 1))] := hD
                        refine lv_iinc (k := 0) (v := nI (k + 1)) (lv' := [(3, .int (nI (k + 1))), (2, .int (kb_i true)), (0, .ref o), (1, .int (kb_i true))]) hx hb dc_Mo_proof_225 hl rfl (nI_1 _) (by decide) rfl (fun ls hl => ?_)
                        refine lv_goto hx hb dc_Mo_proof_228 rfl ?_
                        exact ih_83 _ _ _ _ _ _ _ _ _ _ _ _ _ _ _ (by omega) hP hD hS hl ((set_add (by omega) hop hde).symm.trans h1) (by omega) (⟨by omega, by omega⟩) (by rw [decide_eq_false hc214]; rfl) (fun j a b => lv_add (hlb j a b)) (up_16 h161 (rk_16 hrk (by omega) (by omega))) (ad_st (x := false) had)
                      · refine lv_iconst (v := nI 1) hx hb dc_Mo_proof_217 (by decide +kernel) ?_
                        refine lv_goto hx hb dc_Mo_proof_218 rfl ?_
                        refine kn_top (y := kb_i true) (by decide +kernel) ?_
                        refine va_put (ci := 10) (v := .int (kb_i true)) (ty := .boolean) (C := rn_Mo) (T := fd_Mo) (N := 36) hx hb hts in_Mo ty_Mo tk_Mo nm_Mo hown hK hP hD hS 0 rfl rfl 13 (by decide) (hts _ wd_759) (fun _ h9 => h9) rfl (by decide +kernel) (kb_nar _) (kb_fit _) (Nat.le_of_ble_eq_true rfl) dc_Mo_proof_222 (fun H locs hP hD hS => ?_)
                        have hP : va_P D kc_l [mo_c o 0 0 x0 mat mfr mto e1_1 FF.2.1 x1 x2 x3 mhf true true false mba (n1 + 1) x4 x5 x6 x7 x8 (k + 1) x9 x10 x11 x12 mtr mrs x13 x14 x15 x16 mwr x17 mfo, ar_n cI x0 250 t, ar_n cI x1 16 e1_3, ar_i cI x2 128 e1_4, ar_b cZ x3 16 e1_5, ar_n cI x4 33 (va_up fs1 (n1 + 1) (FF.2.2.2.1 (k + 1))), ar_n cI x5 33 (va_up fz1 (n1 + 1) (FF.2.2.1 (k + 1))), ar_i cI x6 264 (va_cpy FF.2.2.2.2.1 fl1 ((k + 1) * 8) ((n1 + 1) * 8) (FF.2.2.1 (k + 1))), ar_b cZ x7 33 (va_up lb1 (n1 + 1) true), ar_b cZ x9 17 (va_up ad1 (k + 1) true), ar_n cI x10 17 (va_up nu1 (k + 1) (n1 + 1))] H := hP
                        have hD : va_D A [mo_c o 0 0 x0 mat mfr mto e1_1 FF.2.1 x1 x2 x3 mhf true true false mba (n1 + 1) x4 x5 x6 x7 x8 (k + 1) x9 x10 x11 x12 mtr mrs x13 x14 x15 x16 mwr x17 mfo, ar_n cI x0 250 t, ar_n cI x1 16 e1_3, ar_i cI x2 128 e1_4, ar_b cZ x3 16 e1_5, ar_n cI x4 33 (va_up fs1 (n1 + 1) (FF.2.2.2.1 (k + 1))), ar_n cI x5 33 (va_up fz1 (n1 + 1) (FF.2.2.1 (k + 1))), ar_i cI x6 264 (va_cpy FF.2.2.2.2.1 fl1 ((k + 1) * 8) ((n1 + 1) * 8) (FF.2.2.1 (k + 1))), ar_b cZ x7 33 (va_up lb1 (n1 + 1) true), ar_b cZ x9 17 (va_up ad1 (k + 1) true), ar_n cI x10 17 (va_up nu1 (k + 1) (n1 + 1))] := hD
                        refine lv_iinc (k := 0) (v := nI (k + 1)) (lv' := [(3, .int (nI (k + 1))), (2, .int (kb_i true)), (0, .ref o), (1, .int (kb_i true))]) hx hb dc_Mo_proof_225 hl rfl (nI_1 _) (by decide) rfl (fun ls hl => ?_)
                        refine lv_goto hx hb dc_Mo_proof_228 rfl ?_
                        exact ih_83 _ _ _ _ _ _ _ _ _ _ _ _ _ _ _ (by omega) hP hD hS hl ((set_add (by omega) hop hde).symm.trans h1) (by omega) (⟨by omega, by omega⟩) (by rw [decide_eq_true hc214]; rfl) (fun j a b => lv_add (hlb j a b)) (up_16 h161 (rk_16 hrk (by omega) (by omega))) (ad_st (x := false) had)
                    · exact absurd hc137 (by decide)
                · have hde : FF.2.2.2.2.2 (k + 1) = true := by rw [← hdd k (by omega)]; exact hrk1
                  refine lv_aload_n hx hb dc_Mo_proof_98 rfl (lv_at hl 2 rfl) ?_
                  refine lv_dup hx hb dc_Mo_proof_99 rfl ?_
                  refine va_get (ci := 10) (v := .int (nI k)) (C := rn_Mo) (T := fd_Mo) (N := 36) hx hb hts in_Mo hown hK hP 0 rfl rfl 22 (by decide) (hts _ wd_768) (fun _ h9 => h9) rfl dc_Mo_proof_100 ?_
                  refine lv_iconst (v := nI 1) hx hb dc_Mo_proof_103 (by decide +kernel) ?_
                  refine kn_iadd hx hb dc_Mo_proof_104 ?_
                  refine va_put (ci := 10) (v := .int (nI (k + 1))) (ty := .int) (C := rn_Mo) (T := fd_Mo) (N := 36) hx hb hts in_Mo ty_Mo tk_Mo nm_Mo hown hK hP hD hS 0 rfl rfl 22 (by decide) (hts _ wd_768) (fun _ h9 => h9) rfl (by decide +kernel) rfl rfl (Nat.le_of_ble_eq_true rfl) dc_Mo_proof_105 (fun H locs hP hD hS => ?_)
                  have hP : va_P D kc_l [mo_c o 0 0 x0 mat mfr mto e1_1 FF.2.1 x1 x2 x3 mhf true cl1 false mba n1 x4 x5 x6 x7 x8 (k + 1) x9 x10 x11 x12 mtr mrs x13 x14 x15 x16 mwr x17 mfo, ar_n cI x0 250 t, ar_n cI x1 16 e1_3, ar_i cI x2 128 e1_4, ar_b cZ x3 16 e1_5, ar_n cI x4 33 fs1, ar_n cI x5 33 fz1, ar_i cI x6 264 fl1, ar_b cZ x7 33 lb1, ar_b cZ x9 17 ad1, ar_n cI x10 17 nu1] H := hP
                  have hD : va_D A [mo_c o 0 0 x0 mat mfr mto e1_1 FF.2.1 x1 x2 x3 mhf true cl1 false mba n1 x4 x5 x6 x7 x8 (k + 1) x9 x10 x11 x12 mtr mrs x13 x14 x15 x16 mwr x17 mfo, ar_n cI x0 250 t, ar_n cI x1 16 e1_3, ar_i cI x2 128 e1_4, ar_b cZ x3 16 e1_5, ar_n cI x4 33 fs1, ar_n cI x5 33 fz1, ar_i cI x6 264 fl1, ar_b cZ x7 33 lb1, ar_b cZ x9 17 ad1, ar_n cI x10 17 nu1] := hD
                  refine lv_aload_n hx hb dc_Mo_proof_108 rfl (lv_at hl 2 rfl) ?_
                  refine va_get (ci := 10) (v := .ref x9) (C := rn_Mo) (T := fd_Mo) (N := 36) hx hb hts in_Mo hown hK hP 0 rfl rfl 23 (by decide) (hts _ wd_769) (fun _ h9 => h9) rfl dc_Mo_proof_109 ?_
                  refine lv_aload_n hx hb dc_Mo_proof_112 rfl (lv_at hl 2 rfl) ?_
                  refine va_get (ci := 10) (v := .int (nI (k + 1))) (C := rn_Mo) (T := fd_Mo) (N := 36) hx hb hts in_Mo hown hK hP 0 rfl rfl 22 (by decide) (hts _ wd_768) (fun _ h9 => h9) rfl dc_Mo_proof_113 ?_
                  refine lv_aload_n hx hb dc_Mo_proof_116 rfl (lv_at hl 2 rfl) ?_
                  refine va_get (ci := 10) (v := .ref x3) (C := rn_Mo) (T := fd_Mo) (N := 36) hx hb hts in_Mo hown hK hP 0 rfl rfl 10 (by decide) (hts _ wd_756) (fun _ h9 => h9) rfl dc_Mo_proof_117 ?_
                  refine lv_iload_n hx hb dc_Mo_proof_120 rfl (lv_at hl 0 rfl) ?_
                  refine ka_bald (t := e1_5) hx hb hK hP 4 1 rfl rfl (j := k) (by omega) (by omega) dc_Mo_proof_121 ?_
                  refine kn_top (y := kb_i true) (congrArg kb_i hrk1) ?_
                  refine kb_if_ne hx hb dc_Mo_proof_122 rfl (fun hc122 => ?_) (fun hc122 => ?_)
                  · refine lv_iconst (v := nI 0) hx hb dc_Mo_proof_129 (by decide +kernel) ?_
                    refine kn_top (y := kb_i false) (by decide +kernel) ?_
                    refine ka_bast (t := ad1) hx hb hK hP hD hS 9 1 rfl rfl (j := k + 1) (by omega) (by omega) dc_Mo_proof_130 (ws' := [mo_c o 0 0 x0 mat mfr mto e1_1 FF.2.1 x1 x2 x3 mhf true cl1 false mba n1 x4 x5 x6 x7 x8 (k + 1) x9 x10 x11 x12 mtr mrs x13 x14 x15 x16 mwr x17 mfo, ar_n cI x0 250 t, ar_n cI x1 16 e1_3, ar_i cI x2 128 e1_4, ar_b cZ x3 16 e1_5, ar_n cI x4 33 fs1, ar_n cI x5 33 fz1, ar_i cI x6 264 fl1, ar_b cZ x7 33 lb1, ar_b cZ x9 17 (va_up ad1 (k + 1) false), ar_n cI x10 17 nu1]) rfl (fun H locs hP hD hS => ?_)
                    refine lv_aload_n hx hb dc_Mo_proof_131 rfl (lv_at hl 2 rfl) ?_
                    refine va_get (ci := 10) (v := .ref x3) (C := rn_Mo) (T := fd_Mo) (N := 36) hx hb hts in_Mo hown hK hP 0 rfl rfl 10 (by decide) (hts _ wd_756) (fun _ h9 => h9) rfl dc_Mo_proof_132 ?_
                    refine lv_iload_n hx hb dc_Mo_proof_135 rfl (lv_at hl 0 rfl) ?_
                    refine ka_bald (t := e1_5) hx hb hK hP 4 1 rfl rfl (j := k) (by omega) (by omega) dc_Mo_proof_136 ?_
                    refine kn_top (y := kb_i true) (congrArg kb_i hrk1) ?_
                    refine kb_if_eq hx hb dc_Mo_proof_137 rfl (fun hc137 => ?_) (fun hc137 => ?_)
                    · exact absurd hc137 (by decide)
                    · refine lv_aload_n hx hb dc_Mo_proof_140 rfl (lv_at hl 2 rfl) ?_
                      refine va_get (ci := 10) (v := .ref x10) (C := rn_Mo) (T := fd_Mo) (N := 36) hx hb hts in_Mo hown hK hP 0 rfl rfl 24 (by decide) (hts _ wd_770) (fun _ h9 => h9) rfl dc_Mo_proof_141 ?_
                      refine lv_aload_n hx hb dc_Mo_proof_144 rfl (lv_at hl 2 rfl) ?_
                      refine va_get (ci := 10) (v := .int (nI (k + 1))) (C := rn_Mo) (T := fd_Mo) (N := 36) hx hb hts in_Mo hown hK hP 0 rfl rfl 22 (by decide) (hts _ wd_768) (fun _ h9 => h9) rfl dc_Mo_proof_145 ?_
                      refine lv_aload_n hx hb dc_Mo_proof_148 rfl (lv_at hl 2 rfl) ?_
                      refine lv_aload_n hx hb dc_Mo_proof_149 rfl (lv_at hl 2 rfl) ?_
                      refine lv_iload_n hx hb dc_Mo_proof_150 rfl (lv_at hl 0 rfl) ?_
                      refine kr_call1 (va_runV (As := [.int (nI k)]) (rest := [.ref o, .int (nI (k + 1)), .ref x10]) ⟨hx, hb, hml, hown, hts⟩ (ct_Mo_setAt l D cI cZ _ o 0 0 x0 mat mfr mto e1_1 FF.2.1 x1 x2 x3 mhf true cl1 false mba n1 x4 x5 x6 x7 x8 (k + 1) x9 x10 x11 x12 mtr mrs x13 x14 x15 x16 mwr x17 mfo e1_3 e1_4 k bb pm (FF.2.2.2.1 (k + 1)) (by omega) (hrow)) (cwV 1 hts (kx_gV wd_911 wd_913 (kx_sel (q := (yn_Mo_setAt, 36)) (List.mem_append_right _ (List.mem_append_left _ (List.mem_of_getElem? (i := 5) rfl)))) wd_9 wd_914) rfl rfl rfl ⟨rfl, yd_Mo_setAt⟩ ⟨Nat.le_of_ble_eq_true rfl, Nat.le_of_ble_eq_true rfl⟩) (kp_V (q0 := 0) (ci := 10) hP hD hK hN [0, 2, 3] rfl rfl rfl rfl rfl) rfl rfl hl.1 rfl (lv_room (Nat.le_of_ble_eq_true rfl)) dc_Mo_proof_151 ⟨Nat.le_of_ble_eq_true rfl, Nat.le_of_ble_eq_true rfl⟩) ?_
                      refine kr_call1 (va_runV (As := [.int (nI (FF.2.2.2.1 (k + 1)))]) (rest := [.int (nI (k + 1)), .ref x10]) ⟨hx, hb, hml, hown, hts⟩ (ct_Mo_alike l D cI cZ _ o 0 0 x0 mat mfr mto e1_1 FF.2.1 x1 x2 x3 mhf true cl1 false mba n1 x4 x5 x6 x7 x8 (k + 1) x9 x10 x11 x12 mtr mrs x13 x14 x15 x16 mwr x17 mfo lb1 fs1 (FF.2.2.2.1 (k + 1)) lv (by omega) (h161) (rk_16 hrk (by omega) (by omega)) (fun j a b => hlb j a (by omega))) (cwV 1 hts (kx_gV wd_934 wd_936 (kx_sel (q := (yn_Mo_alike, 36)) (List.mem_append_right _ (List.mem_append_left _ (List.mem_of_getElem? (i := 9) rfl)))) wd_9 wd_937) rfl rfl rfl ⟨rfl, yd_Mo_alike⟩ ⟨Nat.le_of_ble_eq_true rfl, Nat.le_of_ble_eq_true rfl⟩) (kp_V (q0 := 0) (ci := 10) hP hD hK hN [0, 8, 5] rfl rfl rfl rfl rfl) rfl rfl hl.1 rfl (lv_room (Nat.le_of_ble_eq_true rfl)) dc_Mo_proof_154 ⟨Nat.le_of_ble_eq_true rfl, Nat.le_of_ble_eq_true rfl⟩) ?_
                      refine ka_nast (t := nu1) hx hb hK hP hD hS 10 0 rfl rfl (j := k + 1) (by omega) (by omega) dc_Mo_proof_157 (ws' := [mo_c o 0 0 x0 mat mfr mto e1_1 FF.2.1 x1 x2 x3 mhf true cl1 false mba n1 x4 x5 x6 x7 x8 (k + 1) x9 x10 x11 x12 mtr mrs x13 x14 x15 x16 mwr x17 mfo, ar_n cI x0 250 t, ar_n cI x1 16 e1_3, ar_i cI x2 128 e1_4, ar_b cZ x3 16 e1_5, ar_n cI x4 33 fs1, ar_n cI x5 33 fz1, ar_i cI x6 264 fl1, ar_b cZ x7 33 lb1, ar_b cZ x9 17 (va_up ad1 (k + 1) false), ar_n cI x10 17 (va_up nu1 (k + 1) (pt_last (fun j => lv.testBit j && decide (fs1 j = (FF.2.2.2.1 (k + 1)))) n1))]) rfl (fun H locs hP hD hS => ?_)
                      refine lv_aload_n hx hb dc_Mo_proof_158 rfl (lv_at hl 2 rfl) ?_
                      refine va_get (ci := 10) (v := .ref x7) (C := rn_Mo) (T := fd_Mo) (N := 36) hx hb hts in_Mo hown hK hP 0 rfl rfl 20 (by decide) (hts _ wd_766) (fun _ h9 => h9) rfl dc_Mo_proof_159 ?_
                      refine lv_aload_n hx hb dc_Mo_proof_162 rfl (lv_at hl 2 rfl) ?_
                      refine va_get (ci := 10) (v := .ref x10) (C := rn_Mo) (T := fd_Mo) (N := 36) hx hb hts in_Mo hown hK hP 0 rfl rfl 24 (by decide) (hts _ wd_770) (fun _ h9 => h9) rfl dc_Mo_proof_163 ?_
                      refine lv_aload_n hx hb dc_Mo_proof_166 rfl (lv_at hl 2 rfl) ?_
                      refine va_get (ci := 10) (v := .int (nI (k + 1))) (C := rn_Mo) (T := fd_Mo) (N := 36) hx hb hts in_Mo hown hK hP 0 rfl rfl 22 (by decide) (hts _ wd_768) (fun _ h9 => h9) rfl dc_Mo_proof_167 ?_
                      refine ka_nald (t := va_up nu1 (k + 1) (pt_last (fun j => lv.testBit j && decide (fs1 j = (FF.2.2.2.1 (k + 1)))) n1)) hx hb hK hP 10 0 rfl rfl (j := k + 1) (by omega) (by omega) dc_Mo_proof_170 ?_
                      refine kn_top (y := nI (pt_last (fun j => lv.testBit j && decide (fs1 j = FF.2.2.2.1 (k + 1))) n1)) (congrArg nI (va_up_self _ _ _)) ?_
                      refine lv_iconst (v := nI 0) hx hb dc_Mo_proof_171 (by decide +kernel) ?_
                      refine kn_top (y := kb_i false) (by decide +kernel) ?_
                      refine ka_bast (t := lb1) hx hb hK hP hD hS 8 1 rfl rfl (j := pt_last (fun j => lv.testBit j && decide (fs1 j = FF.2.2.2.1 (k + 1))) n1) (by have := pt_last_le (fun j => lv.testBit j && decide (fs1 j = FF.2.2.2.1 (k + 1))) n1; omega) (by omega) dc_Mo_proof_172 (ws' := [mo_c o 0 0 x0 mat mfr mto e1_1 FF.2.1 x1 x2 x3 mhf true cl1 false mba n1 x4 x5 x6 x7 x8 (k + 1) x9 x10 x11 x12 mtr mrs x13 x14 x15 x16 mwr x17 mfo, ar_n cI x0 250 t, ar_n cI x1 16 e1_3, ar_i cI x2 128 e1_4, ar_b cZ x3 16 e1_5, ar_n cI x4 33 fs1, ar_n cI x5 33 fz1, ar_i cI x6 264 fl1, ar_b cZ x7 33 (va_up lb1 (pt_last (fun j => lv.testBit j && decide (fs1 j = FF.2.2.2.1 (k + 1))) n1) false), ar_b cZ x9 17 (va_up ad1 (k + 1) false), ar_n cI x10 17 (va_up nu1 (k + 1) (pt_last (fun j => lv.testBit j && decide (fs1 j = (FF.2.2.2.1 (k + 1)))) n1))]) rfl (fun H locs hP hD hS => ?_)
                      refine lv_goto hx hb dc_Mo_proof_173 rfl ?_
                      refine lv_iinc (k := 0) (v := nI (k + 1)) (lv' := [(3, .int (nI (k + 1))), (2, .int (kb_i true)), (0, .ref o), (1, .int (kb_i true))]) hx hb dc_Mo_proof_225 hl rfl (nI_1 _) (by decide) rfl (fun ls hl => ?_)
                      refine lv_goto hx hb dc_Mo_proof_228 rfl ?_
                      exact ih_83 _ _ _ _ _ _ _ _ _ _ _ _ _ _ _ (by omega) hP hD hS hl ((set_del (by omega) hop hde rfl).symm.trans h1) (by omega) (⟨hn1.1, by omega⟩) (hcl) (fun j a b => lv_del (hlb j a b)) (h161) (ad_st (x := true) had)
                  · exact absurd hc122 (by decide)
        exact lp_83 _ 0 ((2 ^ (mba + 1) - 2)) mba fz fs fl true dl nu false ((pt_fst lb mba 33)) ad _ _ _ (Nat.lt_succ_self _) hP hD hS hl (hSS) (by omega) (⟨Nat.le_refl _, Nat.le_refl _⟩) (rfl) (fst_bit) (h16) (fun i a b => by omega)
      · exact absurd hc35 (by decide)
  · exact absurd hc9 (by rw [hmf]; decide)

set_option maxHeartbeats 4000000 in
set_option maxRecDepth 100000 in
theorem ct_Mo_proof_p_no (l : Launch) (D : va_G) (cI cZ : ClassId) (sz : Nat) (o : Nat) (mth : Nat) (mty : Nat) (x0 : Nat) (mat : Nat) (mfr : Nat) (mto : Nat) (mgd : Bool) (mrd : Nat) (x1 : Nat) (x2 : Nat) (x3 : Nat) (mhf : Bool) (mhp : Bool) (mcl : Bool) (mck : Bool) (mba : Nat) (mct : Nat) (x4 : Nat) (x5 : Nat) (x6 : Nat) (x7 : Nat) (x8 : Nat) (mst : Nat) (x9 : Nat) (x10 : Nat) (x11 : Nat) (x12 : Nat) (mtr : Nat) (mrs : Nat) (x13 : Nat) (x14 : Nat) (x15 : Nat) (x16 : Nat) (mwr : Nat) (x17 : Nat) (mfo : Nat) (t : Nat → Nat) (rz : Nat → Nat) (rl : Nat → Int32) (rd : Nat → Bool) (gz : Nat → Nat) (gs : Nat → Nat) (gl : Nat → Int32) (dd : Nat → Bool) (FF : pt_Y) (hmf : mhf = true) (hty : mty ≤ 250) (ht : ∀ j, t j < 256) (hFF : pt_pck t mty 16 0 0 gz gs gl dd = FF) (hF : FF.1 = false) : Met l yn_Mo_proof (Cond.code yn_Mo_proof bc_Mo_proof 4 (some .int) :: kx_all) ({ frames := 2, cells := 0, slots := 0, locals := 46 } : Room) (kp [.ref o, .int (kb_i true)] D cI cZ [mo_c o mth mty x0 mat mfr mto mgd mrd x1 x2 x3 mhf mhp mcl mck mba mct x4 x5 x6 x7 x8 mst x9 x10 x11 x12 mtr mrs x13 x14 x15 x16 mwr x17 mfo, ar_n cI x0 250 t, ar_n cI x1 16 rz, ar_i cI x2 128 rl, ar_b cZ x3 16 rd] sz) (kw_e (some (.int (nI 0))) D kc_l (fun ex : Nat × Nat × Nat × Bool × Nat × (Nat → Nat) × (Nat → Int32) × (Nat → Bool) => [mo_c o 2 mty x0 ex.1 ex.2.1 ex.2.2.1 ex.2.2.2.1 ex.2.2.2.2.1 x1 x2 x3 mhf mhp mcl mck mba mct x4 x5 x6 x7 x8 mst x9 x10 x11 x12 mtr mrs x13 x14 x15 x16 mwr x17 mfo, ar_n cI x0 250 t, ar_n cI x1 16 ex.2.2.2.2.2.1, ar_i cI x2 128 ex.2.2.2.2.2.2.1, ar_b cZ x3 16 ex.2.2.2.2.2.2.2]) (va_A [mo_c o mth mty x0 mat mfr mto mgd mrd x1 x2 x3 mhf mhp mcl mck mba mct x4 x5 x6 x7 x8 mst x9 x10 x11 x12 mtr mrs x13 x14 x15 x16 mwr x17 mfo, ar_n cI x0 250 t, ar_n cI x1 16 rz, ar_i cI x2 128 rl, ar_b cZ x3 16 rd] sz)) 0 0 (va_A [mo_c o mth mty x0 mat mfr mto mgd mrd x1 x2 x3 mhf mhp mcl mck mba mct x4 x5 x6 x7 x8 mst x9 x10 x11 x12 mtr mrs x13 x14 x15 x16 mwr x17 mfo, ar_n cI x0 250 t, ar_n cI x1 16 rz, ar_i cI x2 128 rl, ar_b cZ x3 16 rd] sz) := by
  refine kx_metE (by decide) (Nat.le_of_ble_eq_true rfl) ?_
  intro p e s m below meth c ls A hx hb hr hml hts hown hlocks hin hA hP hK hD hN hl hS
  have hown : s.vm.findClass rn_Mo = some m.cls := hown
  have hl : lv_has ls 4 [(0, .ref o), (1, .int (kb_i true))] := hl
  refine lv_aload_n hx hb dc_Mo_proof_0 rfl (lv_at hl 0 rfl) ?_
  refine lv_iconst (v := nI 0) hx hb dc_Mo_proof_1 (by decide +kernel) ?_
  refine va_put (ci := 10) (v := .int (nI 0)) (ty := .int) (C := rn_Mo) (T := fd_Mo) (N := 36) hx hb hts in_Mo ty_Mo tk_Mo nm_Mo hown hK hP hD hS 0 rfl rfl 0 (by decide) (hts _ wd_746) (fun _ h9 => h9) rfl (by decide +kernel) rfl rfl (Nat.le_of_ble_eq_true rfl) dc_Mo_proof_2 (fun H locs hP hD hS => ?_)
  have hP : va_P D kc_l [mo_c o 0 mty x0 mat mfr mto mgd mrd x1 x2 x3 mhf mhp mcl mck mba mct x4 x5 x6 x7 x8 mst x9 x10 x11 x12 mtr mrs x13 x14 x15 x16 mwr x17 mfo, ar_n cI x0 250 t, ar_n cI x1 16 rz, ar_i cI x2 128 rl, ar_b cZ x3 16 rd] H := hP
  have hD : va_D A [mo_c o 0 mty x0 mat mfr mto mgd mrd x1 x2 x3 mhf mhp mcl mck mba mct x4 x5 x6 x7 x8 mst x9 x10 x11 x12 mtr mrs x13 x14 x15 x16 mwr x17 mfo, ar_n cI x0 250 t, ar_n cI x1 16 rz, ar_i cI x2 128 rl, ar_b cZ x3 16 rd] := hD
  refine lv_aload_n hx hb dc_Mo_proof_5 rfl (lv_at hl 0 rfl) ?_
  refine va_get (ci := 10) (v := .int (kb_i mhf)) (C := rn_Mo) (T := fd_Mo) (N := 36) hx hb hts in_Mo hown hK hP 0 rfl rfl 11 (by decide) (hts _ wd_757) (fun _ h9 => h9) rfl dc_Mo_proof_6 ?_
  refine kb_if_ne hx hb dc_Mo_proof_9 rfl (fun hc9 => ?_) (fun hc9 => ?_)
  · refine lv_iload_n hx hb dc_Mo_proof_18 rfl (lv_at hl 1 rfl) ?_
    refine kb_if_eq hx hb dc_Mo_proof_19 rfl (fun hc19 => ?_) (fun hc19 => ?_)
    · exact absurd hc19 (by decide)
    · refine lv_aload_n hx hb dc_Mo_proof_22 rfl (lv_at hl 0 rfl) ?_
      refine kw_callE1 (wr := []) (w1 := fun ex_1 : { e : Bool × Nat × (Nat → Nat) × (Nat → Int32) × (Nat → Bool) // (pt_pck t mty 16 0 0 gz gs gl dd).1 = true → e.2.1 = (pt_pck t mty 16 0 0 gz gs gl dd).2.1 ∧ pt_rel (pt_pck t mty 16 0 0 gz gs gl dd).2.1 (pt_pck t mty 16 0 0 gz gs gl dd).2.2.1 (pt_pck t mty 16 0 0 gz gs gl dd).2.2.2.2.1 e.2.2.1 e.2.2.2.1 ∧ ∀ i, i < (pt_pck t mty 16 0 0 gz gs gl dd).2.1 → e.2.2.2.2 i = (pt_pck t mty 16 0 0 gz gs gl dd).2.2.2.2.2 (i + 1) } => [mo_c o 0 mty x0 mat mfr mto ex_1.1.1 ex_1.1.2.1 x1 x2 x3 mhf mhp mcl mck mba mct x4 x5 x6 x7 x8 mst x9 x10 x11 x12 mtr mrs x13 x14 x15 x16 mwr x17 mfo, ar_n cI x0 250 t, ar_n cI x1 16 ex_1.1.2.2.1, ar_i cI x2 128 ex_1.1.2.2.2.1, ar_b cZ x3 16 ex_1.1.2.2.2.2]) (ws' := fun ex_1 : { e : Bool × Nat × (Nat → Nat) × (Nat → Int32) × (Nat → Bool) // (pt_pck t mty 16 0 0 gz gs gl dd).1 = true → e.2.1 = (pt_pck t mty 16 0 0 gz gs gl dd).2.1 ∧ pt_rel (pt_pck t mty 16 0 0 gz gs gl dd).2.1 (pt_pck t mty 16 0 0 gz gs gl dd).2.2.1 (pt_pck t mty 16 0 0 gz gs gl dd).2.2.2.2.1 e.2.2.1 e.2.2.2.1 ∧ ∀ i, i < (pt_pck t mty 16 0 0 gz gs gl dd).2.1 → e.2.2.2.2 i = (pt_pck t mty 16 0 0 gz gs gl dd).2.2.2.2.2 (i + 1) } => [mo_c o 0 mty x0 mat mfr mto ex_1.1.1 ex_1.1.2.1 x1 x2 x3 mhf mhp mcl mck mba mct x4 x5 x6 x7 x8 mst x9 x10 x11 x12 mtr mrs x13 x14 x15 x16 mwr x17 mfo, ar_n cI x0 250 t, ar_n cI x1 16 ex_1.1.2.2.1, ar_i cI x2 128 ex_1.1.2.2.2.1, ar_b cZ x3 16 ex_1.1.2.2.2.2]) (va_runV (As := []) (rest := []) ⟨hx, hb, hml, hown, hts⟩ (ct_Mo_readPacked l D cI cZ _ o 0 mty x0 mat mfr mto mgd mrd x1 x2 x3 mhf mhp mcl mck mba mct x4 x5 x6 x7 x8 mst x9 x10 x11 x12 mtr mrs x13 x14 x15 x16 mwr x17 mfo t rz rl rd gz gs gl dd (hty) (ht)) (cwV 0 hts (kx_gV wd_922 wd_924 (kx_sel (q := (yn_Mo_readPacked, 36)) (List.mem_append_right _ (List.mem_append_left _ (List.mem_of_getElem? (i := 6) rfl)))) wd_9 wd_925) rfl rfl rfl ⟨rfl, yd_Mo_readPacked⟩ ⟨Nat.le_of_ble_eq_true rfl, Nat.le_of_ble_eq_true rfl⟩) (kp_V (q0 := 0) (ci := 10) hP hD hK hN [0, 1, 2, 3, 4] rfl rfl rfl rfl rfl) rfl rfl hl.1 rfl (lv_room (Nat.le_of_ble_eq_true rfl)) dc_Mo_proof_23 ⟨Nat.le_of_ble_eq_true rfl, Nat.le_of_ble_eq_true rfl⟩) hP hD hS hA [0, 1, 2, 3, 4] [] [0, 1, 2, 3, 4] rfl rfl rfl (by decide) (fun _ => rfl) rfl (fun ex_1 H locs hP hD hS => ?_)
      refine lv_goto hx hb dc_Mo_proof_26 rfl ?_
      obtain ⟨⟨e1_1, e1_2, e1_3, e1_4, e1_5⟩, hex_1⟩ := ex_1
      dsimp only at hP hD hex_1
      rw [hFF] at hex_1
      refine kn_top (y := kb_i false) (by rw [hFF, hF]) ?_
      refine lv_istore_n (lv' := [(2, .int (kb_i false)), (0, .ref o), (1, .int (kb_i true))]) hx hb dc_Mo_proof_33 rfl hl (by decide) rfl (fun ls hl => ?_)
      refine lv_iload_n hx hb dc_Mo_proof_34 rfl (lv_at hl 0 rfl) ?_
      refine kb_if_ne hx hb dc_Mo_proof_35 rfl (fun hc35 => ?_) (fun hc35 => ?_)
      · exact absurd hc35 (by decide)
      · refine lv_aload_n hx hb dc_Mo_proof_38 rfl (lv_at hl 1 rfl) ?_
        refine lv_iconst (v := nI 2) hx hb dc_Mo_proof_39 (by decide +kernel) ?_
        refine kw_call1 (wr := [ar_n cI x0 250 t, ar_n cI x1 16 e1_3, ar_i cI x2 128 e1_4, ar_b cZ x3 16 e1_5]) (ws' := [mo_c o 2 mty x0 mat mfr mto e1_1 e1_2 x1 x2 x3 mhf mhp mcl mck mba mct x4 x5 x6 x7 x8 mst x9 x10 x11 x12 mtr mrs x13 x14 x15 x16 mwr x17 mfo, ar_n cI x0 250 t, ar_n cI x1 16 e1_3, ar_i cI x2 128 e1_4, ar_b cZ x3 16 e1_5]) (va_runV (As := [.int (nI 2)]) (rest := []) ⟨hx, hb, hml, hown, hts⟩ (ct_Mo_refuse l D cI cZ _ o 0 mty x0 mat mfr mto e1_1 e1_2 x1 x2 x3 mhf mhp mcl mck mba mct x4 x5 x6 x7 x8 mst x9 x10 x11 x12 mtr mrs x13 x14 x15 x16 mwr x17 mfo 2) (cwV 1 hts (kx_gV wd_903 wd_905 (kx_sel (q := (yn_Mo_refuse, 36)) (List.mem_append_right _ (List.mem_append_left _ (List.mem_of_getElem? (i := 3) rfl)))) wd_9 wd_906) rfl rfl rfl ⟨rfl, yd_Mo_refuse⟩ ⟨Nat.le_of_ble_eq_true rfl, Nat.le_of_ble_eq_true rfl⟩) (kp_V (q0 := 0) (ci := 10) hP hD hK hN [0] rfl rfl rfl rfl rfl) rfl rfl hl.1 rfl (lv_room (Nat.le_of_ble_eq_true rfl)) dc_Mo_proof_40 ⟨Nat.le_of_ble_eq_true rfl, Nat.le_of_ble_eq_true rfl⟩) hP hD hS hA [0] [1, 2, 3, 4] [4, 0, 1, 2, 3] rfl rfl rfl (by decide) rfl rfl (fun H locs hP hD hS => ?_)
        exact ke_iret (x := (mat, mfr, mto, e1_1, e1_2, e1_3, e1_4, e1_5)) hx hb hr hlocks hP hD hS dc_Mo_proof_43 (rfl) (rfl)
  · exact absurd hc9 (by rw [hmf]; decide)

set_option maxHeartbeats 4000000 in
set_option maxRecDepth 100000 in
theorem ct_Mo_proof_nf (l : Launch) (D : va_G) (cI cZ : ClassId) (sz : Nat) (o : Nat) (mth : Nat) (mty : Nat) (x0 : Nat) (mat : Nat) (mfr : Nat) (mto : Nat) (mgd : Bool) (mrd : Nat) (x1 : Nat) (x2 : Nat) (x3 : Nat) (mhf : Bool) (mhp : Bool) (mcl : Bool) (mck : Bool) (mba : Nat) (mct : Nat) (x4 : Nat) (x5 : Nat) (x6 : Nat) (x7 : Nat) (x8 : Nat) (mst : Nat) (x9 : Nat) (x10 : Nat) (x11 : Nat) (x12 : Nat) (mtr : Nat) (mrs : Nat) (x13 : Nat) (x14 : Nat) (x15 : Nat) (x16 : Nat) (mwr : Nat) (x17 : Nat) (mfo : Nat) (w : Bool) (hmf : mhf = false) : Met l yn_Mo_proof (Cond.code yn_Mo_proof bc_Mo_proof 4 (some .int) :: kx_all) ({ frames := 1, cells := 0, slots := 0, locals := 21 } : Room) (kp [.ref o, .int (kb_i w)] D cI cZ [mo_c o mth mty x0 mat mfr mto mgd mrd x1 x2 x3 mhf mhp mcl mck mba mct x4 x5 x6 x7 x8 mst x9 x10 x11 x12 mtr mrs x13 x14 x15 x16 mwr x17 mfo] sz) (kw_q (some (.int (nI 0))) D kc_l [mo_c o 1 mty x0 mat mfr mto mgd mrd x1 x2 x3 mhf mhp mcl mck mba mct x4 x5 x6 x7 x8 mst x9 x10 x11 x12 mtr mrs x13 x14 x15 x16 mwr x17 mfo] (va_A [mo_c o mth mty x0 mat mfr mto mgd mrd x1 x2 x3 mhf mhp mcl mck mba mct x4 x5 x6 x7 x8 mst x9 x10 x11 x12 mtr mrs x13 x14 x15 x16 mwr x17 mfo] sz)) 0 0 (va_A [mo_c o mth mty x0 mat mfr mto mgd mrd x1 x2 x3 mhf mhp mcl mck mba mct x4 x5 x6 x7 x8 mst x9 x10 x11 x12 mtr mrs x13 x14 x15 x16 mwr x17 mfo] sz) := by
  refine kx_metW (by decide) (Nat.le_of_ble_eq_true rfl) ?_
  intro p e s m below meth c ls A hx hb hr hml hts hown hlocks hin hA hP hK hD hN hl hS
  have hown : s.vm.findClass rn_Mo = some m.cls := hown
  have hl : lv_has ls 4 [(0, .ref o), (1, .int (kb_i w))] := hl
  refine lv_aload_n hx hb dc_Mo_proof_0 rfl (lv_at hl 0 rfl) ?_
  refine lv_iconst (v := nI 0) hx hb dc_Mo_proof_1 (by decide +kernel) ?_
  refine va_put (ci := 10) (v := .int (nI 0)) (ty := .int) (C := rn_Mo) (T := fd_Mo) (N := 36) hx hb hts in_Mo ty_Mo tk_Mo nm_Mo hown hK hP hD hS 0 rfl rfl 0 (by decide) (hts _ wd_746) (fun _ h9 => h9) rfl (by decide +kernel) rfl rfl (Nat.le_of_ble_eq_true rfl) dc_Mo_proof_2 (fun H locs hP hD hS => ?_)
  have hP : va_P D kc_l [mo_c o 0 mty x0 mat mfr mto mgd mrd x1 x2 x3 mhf mhp mcl mck mba mct x4 x5 x6 x7 x8 mst x9 x10 x11 x12 mtr mrs x13 x14 x15 x16 mwr x17 mfo] H := hP
  have hD : va_D A [mo_c o 0 mty x0 mat mfr mto mgd mrd x1 x2 x3 mhf mhp mcl mck mba mct x4 x5 x6 x7 x8 mst x9 x10 x11 x12 mtr mrs x13 x14 x15 x16 mwr x17 mfo] := hD
  refine lv_aload_n hx hb dc_Mo_proof_5 rfl (lv_at hl 0 rfl) ?_
  refine va_get (ci := 10) (v := .int (kb_i mhf)) (C := rn_Mo) (T := fd_Mo) (N := 36) hx hb hts in_Mo hown hK hP 0 rfl rfl 11 (by decide) (hts _ wd_757) (fun _ h9 => h9) rfl dc_Mo_proof_6 ?_
  refine kb_if_ne hx hb dc_Mo_proof_9 rfl (fun hc9 => ?_) (fun hc9 => ?_)
  · exact absurd hc9 (by rw [hmf]; decide)
  · refine lv_aload_n hx hb dc_Mo_proof_12 rfl (lv_at hl 0 rfl) ?_
    refine lv_iconst (v := nI 1) hx hb dc_Mo_proof_13 (by decide +kernel) ?_
    refine kw_call1 (wr := []) (ws' := [mo_c o 1 mty x0 mat mfr mto mgd mrd x1 x2 x3 mhf mhp mcl mck mba mct x4 x5 x6 x7 x8 mst x9 x10 x11 x12 mtr mrs x13 x14 x15 x16 mwr x17 mfo]) (va_runV (As := [.int (nI 1)]) (rest := []) ⟨hx, hb, hml, hown, hts⟩ (ct_Mo_refuse l D cI cZ _ o 0 mty x0 mat mfr mto mgd mrd x1 x2 x3 mhf mhp mcl mck mba mct x4 x5 x6 x7 x8 mst x9 x10 x11 x12 mtr mrs x13 x14 x15 x16 mwr x17 mfo 1) (cwV 1 hts (kx_gV wd_903 wd_905 (kx_sel (q := (yn_Mo_refuse, 36)) (List.mem_append_right _ (List.mem_append_left _ (List.mem_of_getElem? (i := 3) rfl)))) wd_9 wd_906) rfl rfl rfl ⟨rfl, yd_Mo_refuse⟩ ⟨Nat.le_of_ble_eq_true rfl, Nat.le_of_ble_eq_true rfl⟩) (kp_V (q0 := 0) (ci := 10) hP hD hK hN [0] rfl rfl rfl rfl rfl) rfl rfl hl.1 rfl (lv_room (Nat.le_of_ble_eq_true rfl)) dc_Mo_proof_14 ⟨Nat.le_of_ble_eq_true rfl, Nat.le_of_ble_eq_true rfl⟩) hP hD hS hA [0] [] [0] rfl rfl rfl (by decide) rfl rfl (fun H locs hP hD hS => ?_)
    exact kw_iret hx hb hr hlocks hP hD hS dc_Mo_proof_17 (rfl) (rfl)
