/-! a whole text is read -/
abbrev pt_F6 : Type := Bool × Nat × Nat × (Nat → Nat) × (Nat → Nat) × (Nat → Int32)
/-- k clauses more behind c of them -/
def pt_rows (t : Nat → Nat) (tn v : Nat) : Nat → Nat → Nat → (Nat → Nat) → (Nat → Nat) → (Nat → Int32) → pt_F6
  | 0, c, q, fz, fs, fl => (true, c, q, fz, fs, fl)
  | k + 1, c, q, fz, fs, fl =>
    let Z := pt_rc t tn v (c + 1) 9 q (va_up fz (c + 1) 0) (va_up fs (c + 1) 0) fl
    if Z.1 = true then pt_rows t tn v k (c + 1) Z.2.1 Z.2.2.1 Z.2.2.2.1 Z.2.2.2.2
    else (false, c + 1, Z.2)
/-- the head of a formula -/
def pt_fok (t : Nat → Nat) (tn : Nat) : Bool :=
  pt_w1 t (pt_ws t tn 0) (pt_zz t tn 0) 112 && pt_w3 t (pt_ws t tn (pt_zz t tn 0)) (pt_zz t tn (pt_zz t tn 0)) 99 110 102
  && decide (¬ pt_intv t (pt_ws t tn (pt_zz t tn (pt_zz t tn 0))) (pt_zz t tn (pt_zz t tn (pt_zz t tn 0))) < nI 1 ∧ ¬ nI 8 < pt_intv t (pt_ws t tn (pt_zz t tn (pt_zz t tn 0))) (pt_zz t tn (pt_zz t tn (pt_zz t tn 0)))
    ∧ ¬ pt_intv t (pt_ws t tn (pt_zz t tn (pt_zz t tn (pt_zz t tn 0)))) (pt_zz t tn (pt_zz t tn (pt_zz t tn (pt_zz t tn 0)))) < 0 ∧ ¬ nI 16 < pt_intv t (pt_ws t tn (pt_zz t tn (pt_zz t tn (pt_zz t tn 0)))) (pt_zz t tn (pt_zz t tn (pt_zz t tn (pt_zz t tn 0)))))
/-- a formula: whether it is one; how many clauses, their rows -/
def pt_fml (t : Nat → Nat) (tn : Nat) (fz fs : Nat → Nat) (fl : Nat → Int32) : pt_F6 :=
  if pt_fok t tn = true then
    let Z := pt_rows t tn (pt_num (pt_intv t (pt_ws t tn (pt_zz t tn (pt_zz t tn 0))) (pt_zz t tn (pt_zz t tn (pt_zz t tn 0))))) (pt_num (pt_intv t (pt_ws t tn (pt_zz t tn (pt_zz t tn (pt_zz t tn 0)))) (pt_zz t tn (pt_zz t tn (pt_zz t tn (pt_zz t tn 0)))))) 0 (pt_zz t tn (pt_zz t tn (pt_zz t tn (pt_zz t tn 0)))) fz fs fl
    (Z.1 && !decide (pt_ws t tn Z.2.2.1 < pt_zz t tn Z.2.2.1), Z.2)
  else (false, 0, 0, fz, fs, fl)
theorem i_nlt {a b : Nat} (h : a ≤ b) (hb : b < 2 ^ 31) (q : nI b < nI a) : False := by
  rw [Int32.lt_iff_toInt_lt, nI_toInt hb, nI_toInt (by omega)] at q
  omega
section FML
variable {t : Nat → Nat} {tn v c k q : Nat} {fz fs : Nat → Nat} {fl : Nat → Int32}
theorem fok_f (h : pt_fok t tn = false) : (pt_fml t tn fz fs fl).1 = false := by
  unfold pt_fml
  rw [if_neg (by rw [h]; decide)]
theorem fok_1 (h : pt_w1 t (pt_ws t tn 0) (pt_zz t tn 0) 112 = false) : pt_fok t tn = false := by
  unfold pt_fok
  rw [h]; rfl
theorem fok_3 (h : pt_w3 t (pt_ws t tn (pt_zz t tn 0)) (pt_zz t tn (pt_zz t tn 0)) 99 110 102 = false) : pt_fok t tn = false := by
  unfold pt_fok
  rw [h, Bool.and_false]; rfl
theorem fok_n {x y : Int32} (hx : pt_intv t (pt_ws t tn (pt_zz t tn (pt_zz t tn 0))) (pt_zz t tn (pt_zz t tn (pt_zz t tn 0))) = x) (hy : pt_intv t (pt_ws t tn (pt_zz t tn (pt_zz t tn (pt_zz t tn 0)))) (pt_zz t tn (pt_zz t tn (pt_zz t tn (pt_zz t tn 0)))) = y) (h : x < nI 1 ∨ nI 8 < x ∨ y < 0 ∨ nI 16 < y) : pt_fok t tn = false := by
  unfold pt_fok
  rw [hx, hy, decide_eq_false, Bool.and_false]
  rintro ⟨h1, h2, h3, h4⟩
  rcases h with h | h | h | h
  · exact h1 h
  · exact h2 h
  · exact h3 h
  · exact h4 h
theorem fml_y {x y : Nat} (h1 : pt_w1 t (pt_ws t tn 0) (pt_zz t tn 0) 112 = true) (h3 : pt_w3 t (pt_ws t tn (pt_zz t tn 0)) (pt_zz t tn (pt_zz t tn 0)) 99 110 102 = true) (hx : pt_intv t (pt_ws t tn (pt_zz t tn (pt_zz t tn 0))) (pt_zz t tn (pt_zz t tn (pt_zz t tn 0))) = nI x) (hy : pt_intv t (pt_ws t tn (pt_zz t tn (pt_zz t tn (pt_zz t tn 0)))) (pt_zz t tn (pt_zz t tn (pt_zz t tn (pt_zz t tn 0)))) = nI y) (hx1 : 1 ≤ x) (hx8 : x ≤ 8) (hy16 : y ≤ 16) {Z : pt_F6} (hZ : pt_rows t tn x y 0 (pt_zz t tn (pt_zz t tn (pt_zz t tn (pt_zz t tn 0)))) fz fs fl = Z) : pt_fml t tn fz fs fl = (Z.1 && !decide (pt_ws t tn Z.2.2.1 < pt_zz t tn Z.2.2.1), Z.2) := by
  subst hZ
  have hk : pt_fok t tn = true := by
    unfold pt_fok
    rw [h1, h3, hx, hy, decide_eq_true]
    · rfl
    · exact ⟨fun q => i_nlt hx1 (by omega) q, fun q => i_nlt hx8 (by omega) q, nI_p (by omega), fun q => i_nlt hy16 (by omega) q⟩
  unfold pt_fml
  rw [if_pos hk, hx, hy, num_nI (by omega), num_nI (by omega)]
theorem rows_bad (hk : c < k) (h : (pt_rc t tn v (c + 1) 9 q (va_up fz (c + 1) 0) (va_up fs (c + 1) 0) fl).1 = false) : (pt_rows t tn v (k - c) c q fz fs fl).1 = false := by
  rw [show k - c = (k - (c + 1)) + 1 by omega, pt_rows]
  rw [if_neg (by rw [h]; decide)]
theorem rows_go (hk : c < k) {Z : pt_R} (hZ : pt_rc t tn v (c + 1) 9 q (va_up fz (c + 1) 0) (va_up fs (c + 1) 0) fl = Z) (h : Z.1 = true) : pt_rows t tn v (k - c) c q fz fs fl = pt_rows t tn v (k - (c + 1)) (c + 1) Z.2.1 Z.2.2.1 Z.2.2.2.1 Z.2.2.2.2 := by
  subst hZ
  rw [show k - c = (k - (c + 1)) + 1 by omega, pt_rows]
  rw [if_pos h]
theorem rows_en (hk : k ≤ c) : pt_rows t tn v (k - c) c q fz fs fl = (true, c, q, fz, fs, fl) := by
  rw [show k - c = 0 by omega, pt_rows]
end FML
abbrev pt_Y : Type := Bool × Nat × (Nat → Nat) × (Nat → Nat) × (Nat → Int32) × (Nat → Bool)
/-- the steps of a proof, k of them at most behind c -/
def pt_prf (t : Nat → Nat) (tn : Nat) : Nat → Nat → Nat → (Nat → Nat) → (Nat → Nat) → (Nat → Int32) → (Nat → Bool) → pt_Y
  | 0, c, q, fz, fs, fl, dd => (!decide (pt_ws t tn q < pt_zz t tn q), c, fz, fs, fl, dd)
  | k + 1, c, q, fz, fs, fl, dd =>
    if ¬ pt_ws t tn q < pt_zz t tn q then (true, c, fz, fs, fl, dd)
    else
      let Z := pt_rc t tn 8 (c + 1) 9 (if pt_w1 t (pt_ws t tn q) (pt_zz t tn q) 100 = true then pt_zz t tn q else q) (va_up fz (c + 1) 0) (va_up fs (c + 1) 0) fl
      if Z.1 = true then pt_prf t tn k (c + 1) Z.2.1 Z.2.2.1 Z.2.2.2.1 Z.2.2.2.2 (va_up dd (c + 1) (pt_w1 t (pt_ws t tn q) (pt_zz t tn q) 100))
      else (false, c + 1, Z.2.2.1, Z.2.2.2.1, Z.2.2.2.2, va_up dd (c + 1) (pt_w1 t (pt_ws t tn q) (pt_zz t tn q) 100))
section PRF
variable {t : Nat → Nat} {tn c q : Nat} {fz fs : Nat → Nat} {fl : Nat → Int32} {dd : Nat → Bool}
theorem prf_en (h : ¬ pt_ws t tn q < pt_zz t tn q) : pt_prf t tn (16 - c) c q fz fs fl dd = (true, c, fz, fs, fl, dd) := by
  cases 16 - c with
  | zero => rw [pt_prf, decide_eq_false h]; rfl
  | succ k => rw [pt_prf, if_pos h]
theorem prf_full (hc : 16 ≤ c) (h : pt_ws t tn q < pt_zz t tn q) : (pt_prf t tn (16 - c) c q fz fs fl dd).1 = false := by
  rw [show 16 - c = 0 by omega, pt_prf, decide_eq_true h]; rfl
theorem prf_bad {q2 : Nat} (h : pt_ws t tn q < pt_zz t tn q) (hq : (if pt_w1 t (pt_ws t tn q) (pt_zz t tn q) 100 = true then pt_zz t tn q else q) = q2) (hZ : c < 16 → (pt_rc t tn 8 (c + 1) 9 q2 (va_up fz (c + 1) 0) (va_up fs (c + 1) 0) fl).1 = false) : (pt_prf t tn (16 - c) c q fz fs fl dd).1 = false := by
  by_cases hc : c < 16
  · rw [show 16 - c = (16 - (c + 1)) + 1 by omega, pt_prf, if_neg (fun z => z h), hq]
    dsimp only
    rw [if_neg (by rw [hZ hc]; decide)]
  · exact prf_full (by omega) h
theorem prf_go {q2 : Nat} (hc : c < 16) (h : pt_ws t tn q < pt_zz t tn q) (hq : (if pt_w1 t (pt_ws t tn q) (pt_zz t tn q) 100 = true then pt_zz t tn q else q) = q2) {Z : pt_R} (hZ : pt_rc t tn 8 (c + 1) 9 q2 (va_up fz (c + 1) 0) (va_up fs (c + 1) 0) fl = Z) (h1 : Z.1 = true) : pt_prf t tn (16 - c) c q fz fs fl dd = pt_prf t tn (16 - (c + 1)) (c + 1) Z.2.1 Z.2.2.1 Z.2.2.2.1 Z.2.2.2.2 (va_up dd (c + 1) (pt_w1 t (pt_ws t tn q) (pt_zz t tn q) 100)) := by
  subst hZ
  rw [show 16 - c = (16 - (c + 1)) + 1 by omega, pt_prf, if_neg (fun z => z h), hq]
  dsimp only
  rw [if_pos h1]
theorem w1_lt {a b x : Nat} (h : ¬ a < b) : pt_w1 t a b x = false := decide_eq_false (fun q => by omega)
theorem w3_lt {a b x y z : Nat} (h : ¬ a < b) : pt_w3 t a b x y z = false := decide_eq_false (fun q => by omega)
end PRF

theorem dc_Mo_readFormula_0 : decode bc_Mo_readFormula 0 = .ok (.aload_n 0, 1) := by decide +kernel
theorem dc_Mo_readFormula_1 : decode bc_Mo_readFormula 1 = .ok (.iconst 0, 1) := by decide +kernel
theorem dc_Mo_readFormula_2 : decode bc_Mo_readFormula 2 = .ok (.putfield 74, 3) := by decide +kernel
theorem dc_Mo_readFormula_5 : decode bc_Mo_readFormula 5 = .ok (.aload_n 0, 1) := by decide +kernel
theorem dc_Mo_readFormula_6 : decode bc_Mo_readFormula 6 = .ok (.iconst 1, 1) := by decide +kernel
theorem dc_Mo_readFormula_7 : decode bc_Mo_readFormula 7 = .ok (.putfield 87, 3) := by decide +kernel
theorem dc_Mo_readFormula_10 : decode bc_Mo_readFormula 10 = .ok (.aload_n 0, 1) := by decide +kernel
theorem dc_Mo_readFormula_11 : decode bc_Mo_readFormula 11 = .ok (.iconst 0, 1) := by decide +kernel
theorem dc_Mo_readFormula_12 : decode bc_Mo_readFormula 12 = .ok (.putfield 91, 3) := by decide +kernel
theorem dc_Mo_readFormula_15 : decode bc_Mo_readFormula 15 = .ok (.aload_n 0, 1) := by decide +kernel
theorem dc_Mo_readFormula_16 : decode bc_Mo_readFormula 16 = .ok (.aload_n 0, 1) := by decide +kernel
theorem dc_Mo_readFormula_17 : decode bc_Mo_readFormula 17 = .ok (.invokevirtual 106, 3) := by decide +kernel
theorem dc_Mo_readFormula_20 : decode bc_Mo_readFormula 20 = .ok (.ifCond .eq (45), 3) := by decide +kernel
theorem dc_Mo_readFormula_23 : decode bc_Mo_readFormula 23 = .ok (.aload_n 0, 1) := by decide +kernel
theorem dc_Mo_readFormula_24 : decode bc_Mo_readFormula 24 = .ok (.bipush (112), 2) := by decide +kernel
theorem dc_Mo_readFormula_26 : decode bc_Mo_readFormula 26 = .ok (.iconst 0, 1) := by decide +kernel
theorem dc_Mo_readFormula_27 : decode bc_Mo_readFormula 27 = .ok (.iconst 0, 1) := by decide +kernel
theorem dc_Mo_readFormula_28 : decode bc_Mo_readFormula 28 = .ok (.invokevirtual 110, 3) := by decide +kernel
theorem dc_Mo_readFormula_31 : decode bc_Mo_readFormula 31 = .ok (.ifCond .eq (34), 3) := by decide +kernel
theorem dc_Mo_readFormula_34 : decode bc_Mo_readFormula 34 = .ok (.aload_n 0, 1) := by decide +kernel
theorem dc_Mo_readFormula_35 : decode bc_Mo_readFormula 35 = .ok (.invokevirtual 106, 3) := by decide +kernel
theorem dc_Mo_readFormula_38 : decode bc_Mo_readFormula 38 = .ok (.ifCond .eq (27), 3) := by decide +kernel
theorem dc_Mo_readFormula_41 : decode bc_Mo_readFormula 41 = .ok (.aload_n 0, 1) := by decide +kernel
theorem dc_Mo_readFormula_42 : decode bc_Mo_readFormula 42 = .ok (.bipush (99), 2) := by decide +kernel
theorem dc_Mo_readFormula_44 : decode bc_Mo_readFormula 44 = .ok (.bipush (110), 2) := by decide +kernel
theorem dc_Mo_readFormula_46 : decode bc_Mo_readFormula 46 = .ok (.bipush (102), 2) := by decide +kernel
theorem dc_Mo_readFormula_48 : decode bc_Mo_readFormula 48 = .ok (.invokevirtual 110, 3) := by decide +kernel
theorem dc_Mo_readFormula_51 : decode bc_Mo_readFormula 51 = .ok (.ifCond .eq (14), 3) := by decide +kernel
theorem dc_Mo_readFormula_54 : decode bc_Mo_readFormula 54 = .ok (.aload_n 0, 1) := by decide +kernel
theorem dc_Mo_readFormula_55 : decode bc_Mo_readFormula 55 = .ok (.invokevirtual 106, 3) := by decide +kernel
theorem dc_Mo_readFormula_58 : decode bc_Mo_readFormula 58 = .ok (.ifCond .eq (7), 3) := by decide +kernel
theorem dc_Mo_readFormula_61 : decode bc_Mo_readFormula 61 = .ok (.iconst 1, 1) := by decide +kernel
theorem dc_Mo_readFormula_62 : decode bc_Mo_readFormula 62 = .ok (.goto (4), 3) := by decide +kernel
theorem dc_Mo_readFormula_65 : decode bc_Mo_readFormula 65 = .ok (.iconst 0, 1) := by decide +kernel
theorem dc_Mo_readFormula_66 : decode bc_Mo_readFormula 66 = .ok (.putfield 87, 3) := by decide +kernel
theorem dc_Mo_readFormula_69 : decode bc_Mo_readFormula 69 = .ok (.aload_n 0, 1) := by decide +kernel
theorem dc_Mo_readFormula_70 : decode bc_Mo_readFormula 70 = .ok (.getfield 87, 3) := by decide +kernel
theorem dc_Mo_readFormula_73 : decode bc_Mo_readFormula 73 = .ok (.ifCond .eq (10), 3) := by decide +kernel
theorem dc_Mo_readFormula_76 : decode bc_Mo_readFormula 76 = .ok (.aload_n 0, 1) := by decide +kernel
theorem dc_Mo_readFormula_77 : decode bc_Mo_readFormula 77 = .ok (.invokevirtual 98, 3) := by decide +kernel
theorem dc_Mo_readFormula_80 : decode bc_Mo_readFormula 80 = .ok (.goto (4), 3) := by decide +kernel
theorem dc_Mo_readFormula_83 : decode bc_Mo_readFormula 83 = .ok (.iconst 0, 1) := by decide +kernel
theorem dc_Mo_readFormula_84 : decode bc_Mo_readFormula 84 = .ok (.istore_n 1, 1) := by decide +kernel
theorem dc_Mo_readFormula_85 : decode bc_Mo_readFormula 85 = .ok (.aload_n 0, 1) := by decide +kernel
theorem dc_Mo_readFormula_86 : decode bc_Mo_readFormula 86 = .ok (.aload_n 0, 1) := by decide +kernel
theorem dc_Mo_readFormula_87 : decode bc_Mo_readFormula 87 = .ok (.getfield 87, 3) := by decide +kernel
theorem dc_Mo_readFormula_90 : decode bc_Mo_readFormula 90 = .ok (.ifCond .eq (25), 3) := by decide +kernel
theorem dc_Mo_readFormula_93 : decode bc_Mo_readFormula 93 = .ok (.iload_n 1, 1) := by decide +kernel
theorem dc_Mo_readFormula_94 : decode bc_Mo_readFormula 94 = .ok (.iconst 1, 1) := by decide +kernel
theorem dc_Mo_readFormula_95 : decode bc_Mo_readFormula 95 = .ok (.if_icmp .lt (20), 3) := by decide +kernel
theorem dc_Mo_readFormula_98 : decode bc_Mo_readFormula 98 = .ok (.iload_n 1, 1) := by decide +kernel
theorem dc_Mo_readFormula_99 : decode bc_Mo_readFormula 99 = .ok (.bipush (8), 2) := by decide +kernel
theorem dc_Mo_readFormula_101 : decode bc_Mo_readFormula 101 = .ok (.if_icmp .gt (14), 3) := by decide +kernel
theorem dc_Mo_readFormula_104 : decode bc_Mo_readFormula 104 = .ok (.aload_n 0, 1) := by decide +kernel
theorem dc_Mo_readFormula_105 : decode bc_Mo_readFormula 105 = .ok (.invokevirtual 106, 3) := by decide +kernel
theorem dc_Mo_readFormula_108 : decode bc_Mo_readFormula 108 = .ok (.ifCond .eq (7), 3) := by decide +kernel
theorem dc_Mo_readFormula_111 : decode bc_Mo_readFormula 111 = .ok (.iconst 1, 1) := by decide +kernel
theorem dc_Mo_readFormula_112 : decode bc_Mo_readFormula 112 = .ok (.goto (4), 3) := by decide +kernel
theorem dc_Mo_readFormula_115 : decode bc_Mo_readFormula 115 = .ok (.iconst 0, 1) := by decide +kernel
theorem dc_Mo_readFormula_116 : decode bc_Mo_readFormula 116 = .ok (.putfield 87, 3) := by decide +kernel
theorem dc_Mo_readFormula_119 : decode bc_Mo_readFormula 119 = .ok (.aload_n 0, 1) := by decide +kernel
theorem dc_Mo_readFormula_120 : decode bc_Mo_readFormula 120 = .ok (.getfield 87, 3) := by decide +kernel
theorem dc_Mo_readFormula_123 : decode bc_Mo_readFormula 123 = .ok (.ifCond .eq (10), 3) := by decide +kernel
theorem dc_Mo_readFormula_126 : decode bc_Mo_readFormula 126 = .ok (.aload_n 0, 1) := by decide +kernel
theorem dc_Mo_readFormula_127 : decode bc_Mo_readFormula 127 = .ok (.invokevirtual 98, 3) := by decide +kernel
theorem dc_Mo_readFormula_130 : decode bc_Mo_readFormula 130 = .ok (.goto (4), 3) := by decide +kernel
theorem dc_Mo_readFormula_133 : decode bc_Mo_readFormula 133 = .ok (.iconst 0, 1) := by decide +kernel
theorem dc_Mo_readFormula_134 : decode bc_Mo_readFormula 134 = .ok (.istore_n 2, 1) := by decide +kernel
theorem dc_Mo_readFormula_135 : decode bc_Mo_readFormula 135 = .ok (.aload_n 0, 1) := by decide +kernel
theorem dc_Mo_readFormula_136 : decode bc_Mo_readFormula 136 = .ok (.aload_n 0, 1) := by decide +kernel
theorem dc_Mo_readFormula_137 : decode bc_Mo_readFormula 137 = .ok (.getfield 87, 3) := by decide +kernel
theorem dc_Mo_readFormula_140 : decode bc_Mo_readFormula 140 = .ok (.ifCond .eq (17), 3) := by decide +kernel
theorem dc_Mo_readFormula_143 : decode bc_Mo_readFormula 143 = .ok (.iload_n 2, 1) := by decide +kernel
theorem dc_Mo_readFormula_144 : decode bc_Mo_readFormula 144 = .ok (.ifCond .lt (13), 3) := by decide +kernel
theorem dc_Mo_readFormula_147 : decode bc_Mo_readFormula 147 = .ok (.iload_n 2, 1) := by decide +kernel
theorem dc_Mo_readFormula_148 : decode bc_Mo_readFormula 148 = .ok (.bipush (16), 2) := by decide +kernel
theorem dc_Mo_readFormula_150 : decode bc_Mo_readFormula 150 = .ok (.if_icmp .gt (7), 3) := by decide +kernel
theorem dc_Mo_readFormula_153 : decode bc_Mo_readFormula 153 = .ok (.iconst 1, 1) := by decide +kernel
theorem dc_Mo_readFormula_154 : decode bc_Mo_readFormula 154 = .ok (.goto (4), 3) := by decide +kernel
theorem dc_Mo_readFormula_157 : decode bc_Mo_readFormula 157 = .ok (.iconst 0, 1) := by decide +kernel
theorem dc_Mo_readFormula_158 : decode bc_Mo_readFormula 158 = .ok (.putfield 87, 3) := by decide +kernel
theorem dc_Mo_readFormula_161 : decode bc_Mo_readFormula 161 = .ok (.iconst 0, 1) := by decide +kernel
theorem dc_Mo_readFormula_162 : decode bc_Mo_readFormula 162 = .ok (.istore_n 3, 1) := by decide +kernel
theorem dc_Mo_readFormula_163 : decode bc_Mo_readFormula 163 = .ok (.iload_n 3, 1) := by decide +kernel
theorem dc_Mo_readFormula_164 : decode bc_Mo_readFormula 164 = .ok (.iload_n 2, 1) := by decide +kernel
theorem dc_Mo_readFormula_165 : decode bc_Mo_readFormula 165 = .ok (.if_icmp .ge (37), 3) := by decide +kernel
theorem dc_Mo_readFormula_168 : decode bc_Mo_readFormula 168 = .ok (.aload_n 0, 1) := by decide +kernel
theorem dc_Mo_readFormula_169 : decode bc_Mo_readFormula 169 = .ok (.getfield 87, 3) := by decide +kernel
theorem dc_Mo_readFormula_172 : decode bc_Mo_readFormula 172 = .ok (.ifCond .eq (30), 3) := by decide +kernel
theorem dc_Mo_readFormula_175 : decode bc_Mo_readFormula 175 = .ok (.aload_n 0, 1) := by decide +kernel
theorem dc_Mo_readFormula_176 : decode bc_Mo_readFormula 176 = .ok (.aload_n 0, 1) := by decide +kernel
theorem dc_Mo_readFormula_177 : decode bc_Mo_readFormula 177 = .ok (.invokevirtual 106, 3) := by decide +kernel
theorem dc_Mo_readFormula_180 : decode bc_Mo_readFormula 180 = .ok (.putfield 87, 3) := by decide +kernel
theorem dc_Mo_readFormula_183 : decode bc_Mo_readFormula 183 = .ok (.aload_n 0, 1) := by decide +kernel
theorem dc_Mo_readFormula_184 : decode bc_Mo_readFormula 184 = .ok (.getfield 87, 3) := by decide +kernel
theorem dc_Mo_readFormula_187 : decode bc_Mo_readFormula 187 = .ok (.ifCond .eq (9), 3) := by decide +kernel
theorem dc_Mo_readFormula_190 : decode bc_Mo_readFormula 190 = .ok (.aload_n 0, 1) := by decide +kernel
theorem dc_Mo_readFormula_191 : decode bc_Mo_readFormula 191 = .ok (.iload_n 1, 1) := by decide +kernel
theorem dc_Mo_readFormula_192 : decode bc_Mo_readFormula 192 = .ok (.iconst 0, 1) := by decide +kernel
theorem dc_Mo_readFormula_193 : decode bc_Mo_readFormula 193 = .ok (.invokevirtual 114, 3) := by decide +kernel
theorem dc_Mo_readFormula_196 : decode bc_Mo_readFormula 196 = .ok (.iinc 3 (1), 3) := by decide +kernel
theorem dc_Mo_readFormula_199 : decode bc_Mo_readFormula 199 = .ok (.goto (-36), 3) := by decide +kernel
theorem dc_Mo_readFormula_202 : decode bc_Mo_readFormula 202 = .ok (.aload_n 0, 1) := by decide +kernel
theorem dc_Mo_readFormula_203 : decode bc_Mo_readFormula 203 = .ok (.getfield 87, 3) := by decide +kernel
theorem dc_Mo_readFormula_206 : decode bc_Mo_readFormula 206 = .ok (.ifCond .eq (14), 3) := by decide +kernel
theorem dc_Mo_readFormula_209 : decode bc_Mo_readFormula 209 = .ok (.aload_n 0, 1) := by decide +kernel
theorem dc_Mo_readFormula_210 : decode bc_Mo_readFormula 210 = .ok (.invokevirtual 106, 3) := by decide +kernel
theorem dc_Mo_readFormula_213 : decode bc_Mo_readFormula 213 = .ok (.ifCond .ne (7), 3) := by decide +kernel
theorem dc_Mo_readFormula_216 : decode bc_Mo_readFormula 216 = .ok (.iconst 1, 1) := by decide +kernel
theorem dc_Mo_readFormula_217 : decode bc_Mo_readFormula 217 = .ok (.goto (4), 3) := by decide +kernel
theorem dc_Mo_readFormula_220 : decode bc_Mo_readFormula 220 = .ok (.iconst 0, 1) := by decide +kernel
theorem dc_Mo_readFormula_221 : decode bc_Mo_readFormula 221 = .ok (.ireturn, 1) := by decide +kernel
theorem dc_Mo_readProof_0 : decode bc_Mo_readProof 0 = .ok (.aload_n 0, 1) := by decide +kernel
theorem dc_Mo_readProof_1 : decode bc_Mo_readProof 1 = .ok (.iconst 0, 1) := by decide +kernel
theorem dc_Mo_readProof_2 : decode bc_Mo_readProof 2 = .ok (.putfield 74, 3) := by decide +kernel
theorem dc_Mo_readProof_5 : decode bc_Mo_readProof 5 = .ok (.aload_n 0, 1) := by decide +kernel
theorem dc_Mo_readProof_6 : decode bc_Mo_readProof 6 = .ok (.iconst 1, 1) := by decide +kernel
theorem dc_Mo_readProof_7 : decode bc_Mo_readProof 7 = .ok (.putfield 87, 3) := by decide +kernel
theorem dc_Mo_readProof_10 : decode bc_Mo_readProof 10 = .ok (.aload_n 0, 1) := by decide +kernel
theorem dc_Mo_readProof_11 : decode bc_Mo_readProof 11 = .ok (.iconst 0, 1) := by decide +kernel
theorem dc_Mo_readProof_12 : decode bc_Mo_readProof 12 = .ok (.putfield 91, 3) := by decide +kernel
theorem dc_Mo_readProof_15 : decode bc_Mo_readProof 15 = .ok (.aload_n 0, 1) := by decide +kernel
theorem dc_Mo_readProof_16 : decode bc_Mo_readProof 16 = .ok (.getfield 87, 3) := by decide +kernel
theorem dc_Mo_readProof_19 : decode bc_Mo_readProof 19 = .ok (.ifCond .eq (56), 3) := by decide +kernel
theorem dc_Mo_readProof_22 : decode bc_Mo_readProof 22 = .ok (.aload_n 0, 1) := by decide +kernel
theorem dc_Mo_readProof_23 : decode bc_Mo_readProof 23 = .ok (.invokevirtual 106, 3) := by decide +kernel
theorem dc_Mo_readProof_26 : decode bc_Mo_readProof 26 = .ok (.ifCond .eq (49), 3) := by decide +kernel
theorem dc_Mo_readProof_29 : decode bc_Mo_readProof 29 = .ok (.aload_n 0, 1) := by decide +kernel
theorem dc_Mo_readProof_30 : decode bc_Mo_readProof 30 = .ok (.bipush (100), 2) := by decide +kernel
theorem dc_Mo_readProof_32 : decode bc_Mo_readProof 32 = .ok (.iconst 0, 1) := by decide +kernel
theorem dc_Mo_readProof_33 : decode bc_Mo_readProof 33 = .ok (.iconst 0, 1) := by decide +kernel
theorem dc_Mo_readProof_34 : decode bc_Mo_readProof 34 = .ok (.invokevirtual 110, 3) := by decide +kernel
theorem dc_Mo_readProof_37 : decode bc_Mo_readProof 37 = .ok (.istore_n 1, 1) := by decide +kernel
theorem dc_Mo_readProof_38 : decode bc_Mo_readProof 38 = .ok (.aload_n 0, 1) := by decide +kernel
theorem dc_Mo_readProof_39 : decode bc_Mo_readProof 39 = .ok (.iload_n 1, 1) := by decide +kernel
theorem dc_Mo_readProof_40 : decode bc_Mo_readProof 40 = .ok (.ifCond .eq (10), 3) := by decide +kernel
theorem dc_Mo_readProof_43 : decode bc_Mo_readProof 43 = .ok (.aload_n 0, 1) := by decide +kernel
theorem dc_Mo_readProof_44 : decode bc_Mo_readProof 44 = .ok (.invokevirtual 106, 3) := by decide +kernel
theorem dc_Mo_readProof_47 : decode bc_Mo_readProof 47 = .ok (.ifCond .eq (7), 3) := by decide +kernel
theorem dc_Mo_readProof_50 : decode bc_Mo_readProof 50 = .ok (.iconst 1, 1) := by decide +kernel
theorem dc_Mo_readProof_51 : decode bc_Mo_readProof 51 = .ok (.goto (4), 3) := by decide +kernel
theorem dc_Mo_readProof_54 : decode bc_Mo_readProof 54 = .ok (.iconst 0, 1) := by decide +kernel
theorem dc_Mo_readProof_55 : decode bc_Mo_readProof 55 = .ok (.putfield 87, 3) := by decide +kernel
theorem dc_Mo_readProof_58 : decode bc_Mo_readProof 58 = .ok (.aload_n 0, 1) := by decide +kernel
theorem dc_Mo_readProof_59 : decode bc_Mo_readProof 59 = .ok (.getfield 87, 3) := by decide +kernel
theorem dc_Mo_readProof_62 : decode bc_Mo_readProof 62 = .ok (.ifCond .eq (10), 3) := by decide +kernel
theorem dc_Mo_readProof_65 : decode bc_Mo_readProof 65 = .ok (.aload_n 0, 1) := by decide +kernel
theorem dc_Mo_readProof_66 : decode bc_Mo_readProof 66 = .ok (.bipush (8), 2) := by decide +kernel
theorem dc_Mo_readProof_68 : decode bc_Mo_readProof 68 = .ok (.iload_n 1, 1) := by decide +kernel
theorem dc_Mo_readProof_69 : decode bc_Mo_readProof 69 = .ok (.invokevirtual 114, 3) := by decide +kernel
theorem dc_Mo_readProof_72 : decode bc_Mo_readProof 72 = .ok (.goto (-57), 3) := by decide +kernel
theorem dc_Mo_readProof_75 : decode bc_Mo_readProof 75 = .ok (.aload_n 0, 1) := by decide +kernel
theorem dc_Mo_readProof_76 : decode bc_Mo_readProof 76 = .ok (.getfield 87, 3) := by decide +kernel
theorem dc_Mo_readProof_79 : decode bc_Mo_readProof 79 = .ok (.ireturn, 1) := by decide +kernel
theorem i_lt {a b : Nat} (h : a < b) (hb : b < 2 ^ 31) : nI a < nI b := by
  rw [Int32.lt_iff_toInt_lt, nI_toInt (by omega), nI_toInt hb]
  omega
theorem rc_q {t : Nat → Nat} {tn v c : Nat} : ∀ {k q : Nat} {fz fs : Nat → Nat} {fl : Nat → Int32}, q ≤ tn → (pt_rc t tn v c k q fz fs fl).2.1 ≤ tn := by
  intro k
  induction k with
  | zero => intro q fz fs fl h; exact h
  | succ k ih =>
    intro q fz fs fl h
    rw [pt_rc]
    split
    · exact zz_le h
    · split
      · exact zz_le h
      · split
        · exact zz_le h
        · exact ih (zz_le h)

set_option maxHeartbeats 4000000 in
set_option maxRecDepth 100000 in
theorem ct_Mo_readFormula (l : Launch) (D : va_G) (cI cZ : ClassId) (sz : Nat) (o : Nat) (mth : Nat) (mty : Nat) (x0 : Nat) (mat : Nat) (mfr : Nat) (mto : Nat) (mgd : Bool) (mrd : Nat) (x1 : Nat) (x2 : Nat) (x3 : Nat) (mhf : Bool) (mhp : Bool) (mcl : Bool) (mck : Bool) (mba : Nat) (mct : Nat) (x4 : Nat) (x5 : Nat) (x6 : Nat) (x7 : Nat) (x8 : Nat) (mst : Nat) (x9 : Nat) (x10 : Nat) (x11 : Nat) (x12 : Nat) (mtr : Nat) (mrs : Nat) (x13 : Nat) (x14 : Nat) (x15 : Nat) (x16 : Nat) (mwr : Nat) (x17 : Nat) (mfo : Nat) (t : Nat → Nat) (rz : Nat → Nat) (rl : Nat → Int32) (rd : Nat → Bool) (fz : Nat → Nat) (fs : Nat → Nat) (fl : Nat → Int32) (hty : mty ≤ 250) (ht : ∀ j, t j < 256) : Met l yn_Mo_readFormula (Cond.code yn_Mo_readFormula bc_Mo_readFormula 4 (some .boolean) :: kx_all) ({ frames := 3, cells := 0, slots := 0, locals := 63 } : Room) (kp [.ref o] D cI cZ [mo_c o mth mty x0 mat mfr mto mgd mrd x1 x2 x3 mhf mhp mcl mck mba mct x4 x5 x6 x7 x8 mst x9 x10 x11 x12 mtr mrs x13 x14 x15 x16 mwr x17 mfo, ar_n cI x0 250 t, ar_n cI x1 16 rz, ar_i cI x2 128 rl, ar_b cZ x3 16 rd] sz) (kw_e (some (.int (kb_i ((pt_fml t mty fz fs fl).1)))) D kc_l (fun ex : { e : Nat × Nat × Nat × Bool × Nat × (Nat → Nat) × (Nat → Int32) × (Nat → Bool) // (pt_fml t mty fz fs fl).1 = true → e.2.2.2.2.1 = (pt_fml t mty fz fs fl).2.1 ∧ pt_rel (pt_fml t mty fz fs fl).2.1 (pt_fml t mty fz fs fl).2.2.2.1 (pt_fml t mty fz fs fl).2.2.2.2.2 e.2.2.2.2.2.1 e.2.2.2.2.2.2.1 } => [mo_c o mth mty x0 ex.1.1 ex.1.2.1 ex.1.2.2.1 ex.1.2.2.2.1 ex.1.2.2.2.2.1 x1 x2 x3 mhf mhp mcl mck mba mct x4 x5 x6 x7 x8 mst x9 x10 x11 x12 mtr mrs x13 x14 x15 x16 mwr x17 mfo, ar_n cI x0 250 t, ar_n cI x1 16 ex.1.2.2.2.2.2.1, ar_i cI x2 128 ex.1.2.2.2.2.2.2.1, ar_b cZ x3 16 ex.1.2.2.2.2.2.2.2]) (va_A [mo_c o mth mty x0 mat mfr mto mgd mrd x1 x2 x3 mhf mhp mcl mck mba mct x4 x5 x6 x7 x8 mst x9 x10 x11 x12 mtr mrs x13 x14 x15 x16 mwr x17 mfo, ar_n cI x0 250 t, ar_n cI x1 16 rz, ar_i cI x2 128 rl, ar_b cZ x3 16 rd] sz)) 0 0 (va_A [mo_c o mth mty x0 mat mfr mto mgd mrd x1 x2 x3 mhf mhp mcl mck mba mct x4 x5 x6 x7 x8 mst x9 x10 x11 x12 mtr mrs x13 x14 x15 x16 mwr x17 mfo, ar_n cI x0 250 t, ar_n cI x1 16 rz, ar_i cI x2 128 rl, ar_b cZ x3 16 rd] sz) := by
  refine kx_metE (by decide) (Nat.le_of_ble_eq_true rfl) ?_
  intro p e s m below meth c ls A hx hb hr hml hts hown hlocks hin hA hP hK hD hN hl hS
  have hown : s.vm.findClass rn_Mo = some m.cls := hown
  have hl : lv_has ls 4 [(0, .ref o)] := hl
  have jn_163 : ∀ (c1 : Nat) (c2 : Nat) (c3 : Nat) (c4 : Nat) (rz9 : Nat → Nat) (rl9 : Nat → Int32) (rd9 : Nat → Bool) (w9 : Int32) (y9 : Int32) (H : Heap) (locs : List Loc) (ls : Array Slot), va_P D kc_l [mo_c o mth mty x0 c1 c2 c3 false c4 x1 x2 x3 mhf mhp mcl mck mba mct x4 x5 x6 x7 x8 mst x9 x10 x11 x12 mtr mrs x13 x14 x15 x16 mwr x17 mfo, ar_n cI x0 250 t, ar_n cI x1 16 rz9, ar_i cI x2 128 rl9, ar_b cZ x3 16 rd9] H → va_D A [mo_c o mth mty x0 c1 c2 c3 false c4 x1 x2 x3 mhf mhp mcl mck mba mct x4 x5 x6 x7 x8 mst x9 x10 x11 x12 mtr mrs x13 x14 x15 x16 mwr x17 mfo, ar_n cI x0 250 t, ar_n cI x1 16 rz9, ar_i cI x2 128 rl9, ar_b cZ x3 16 rd9] → va_S A s.heap H locs → lv_has ls 4 [(3, .int w9), (2, .int y9), (0, .ref o)] → ((pt_fml t mty fz fs fl).1 = false) → W p l e ({ frames := 3, cells := 0, slots := 0, locals := 63 } : Room) s m ([.ref o] : List Value).toArray below meth c H locs 0 0 (MQ below (kw_e (some (.int (kb_i ((pt_fml t mty fz fs fl).1)))) D kc_l (fun ex : { e : Nat × Nat × Nat × Bool × Nat × (Nat → Nat) × (Nat → Int32) × (Nat → Bool) // (pt_fml t mty fz fs fl).1 = true → e.2.2.2.2.1 = (pt_fml t mty fz fs fl).2.1 ∧ pt_rel (pt_fml t mty fz fs fl).2.1 (pt_fml t mty fz fs fl).2.2.2.1 (pt_fml t mty fz fs fl).2.2.2.2.2 e.2.2.2.2.2.1 e.2.2.2.2.2.2.1 } => [mo_c o mth mty x0 ex.1.1 ex.1.2.1 ex.1.2.2.1 ex.1.2.2.2.1 ex.1.2.2.2.2.1 x1 x2 x3 mhf mhp mcl mck mba mct x4 x5 x6 x7 x8 mst x9 x10 x11 x12 mtr mrs x13 x14 x15 x16 mwr x17 mfo, ar_n cI x0 250 t, ar_n cI x1 16 ex.1.2.2.2.2.2.1, ar_i cI x2 128 ex.1.2.2.2.2.2.2.1, ar_b cZ x3 16 ex.1.2.2.2.2.2.2.2]) A) ([.ref o] : List Value).toArray s 0 0 A) (F0 m 163 ls []) := by
    intro c1 c2 c3 c4 rz9 rl9 rd9 w9 y9 H locs ls hP hD hS hl hFf
    refine lv_iload_n hx hb dc_Mo_readFormula_163 rfl (lv_at hl 0 rfl) ?_
    refine lv_iload_n hx hb dc_Mo_readFormula_164 rfl (lv_at hl 1 rfl) ?_
    refine lv_icmp_ge hx hb dc_Mo_readFormula_165 rfl (fun hc165 => ?_) (fun hc165 => ?_)
    · refine lv_aload_n hx hb dc_Mo_readFormula_202 rfl (lv_at hl 2 rfl) ?_
      refine va_get (ci := 10) (v := .int (kb_i false)) (C := rn_Mo) (T := fd_Mo) (N := 36) hx hb hts in_Mo hown hK hP 0 rfl rfl 6 (by decide) (hts _ wd_752) (fun _ h9 => h9) rfl dc_Mo_readFormula_203 ?_
      refine kb_if_eq hx hb dc_Mo_readFormula_206 rfl (fun hc206 => ?_) (fun hc206 => ?_)
      · refine lv_iconst (v := nI 0) hx hb dc_Mo_readFormula_220 (by decide +kernel) ?_
        refine kn_top (y := kb_i false) (by decide +kernel) ?_
        exact ke_zret (x := ⟨(c1, c2, c3, false, c4, rz9, rl9, rd9), fun q9 => absurd q9 (by rw [hFf]; decide)⟩) hx hb hr hlocks hP hD hS dc_Mo_readFormula_221 (by rw [hFf]) (rfl)
      · exact absurd hc206 (by decide)
    · refine lv_aload_n hx hb dc_Mo_readFormula_168 rfl (lv_at hl 2 rfl) ?_
      refine va_get (ci := 10) (v := .int (kb_i false)) (C := rn_Mo) (T := fd_Mo) (N := 36) hx hb hts in_Mo hown hK hP 0 rfl rfl 6 (by decide) (hts _ wd_752) (fun _ h9 => h9) rfl dc_Mo_readFormula_169 ?_
      refine kb_if_eq hx hb dc_Mo_readFormula_172 rfl (fun hc172 => ?_) (fun hc172 => ?_)
      · refine lv_aload_n hx hb dc_Mo_readFormula_202 rfl (lv_at hl 2 rfl) ?_
        refine va_get (ci := 10) (v := .int (kb_i false)) (C := rn_Mo) (T := fd_Mo) (N := 36) hx hb hts in_Mo hown hK hP 0 rfl rfl 6 (by decide) (hts _ wd_752) (fun _ h9 => h9) rfl dc_Mo_readFormula_203 ?_
        refine kb_if_eq hx hb dc_Mo_readFormula_206 rfl (fun hc206 => ?_) (fun hc206 => ?_)
        · refine lv_iconst (v := nI 0) hx hb dc_Mo_readFormula_220 (by decide +kernel) ?_
          refine kn_top (y := kb_i false) (by decide +kernel) ?_
          exact ke_zret (x := ⟨(c1, c2, c3, false, c4, rz9, rl9, rd9), fun q9 => absurd q9 (by rw [hFf]; decide)⟩) hx hb hr hlocks hP hD hS dc_Mo_readFormula_221 (by rw [hFf]) (rfl)
        · exact absurd hc206 (by decide)
      · exact absurd hc172 (by decide)
  have jn_161 : ∀ (c1 : Nat) (c2 : Nat) (c3 : Nat) (c4 : Nat) (rz9 : Nat → Nat) (rl9 : Nat → Int32) (rd9 : Nat → Bool) (y9 : Int32) (H : Heap) (locs : List Loc) (ls : Array Slot), va_P D kc_l [mo_c o mth mty x0 c1 c2 c3 false c4 x1 x2 x3 mhf mhp mcl mck mba mct x4 x5 x6 x7 x8 mst x9 x10 x11 x12 mtr mrs x13 x14 x15 x16 mwr x17 mfo, ar_n cI x0 250 t, ar_n cI x1 16 rz9, ar_i cI x2 128 rl9, ar_b cZ x3 16 rd9] H → va_D A [mo_c o mth mty x0 c1 c2 c3 false c4 x1 x2 x3 mhf mhp mcl mck mba mct x4 x5 x6 x7 x8 mst x9 x10 x11 x12 mtr mrs x13 x14 x15 x16 mwr x17 mfo, ar_n cI x0 250 t, ar_n cI x1 16 rz9, ar_i cI x2 128 rl9, ar_b cZ x3 16 rd9] → va_S A s.heap H locs → lv_has ls 4 [(2, .int y9), (0, .ref o)] → ((pt_fml t mty fz fs fl).1 = false) → W p l e ({ frames := 3, cells := 0, slots := 0, locals := 63 } : Room) s m ([.ref o] : List Value).toArray below meth c H locs 0 0 (MQ below (kw_e (some (.int (kb_i ((pt_fml t mty fz fs fl).1)))) D kc_l (fun ex : { e : Nat × Nat × Nat × Bool × Nat × (Nat → Nat) × (Nat → Int32) × (Nat → Bool) // (pt_fml t mty fz fs fl).1 = true → e.2.2.2.2.1 = (pt_fml t mty fz fs fl).2.1 ∧ pt_rel (pt_fml t mty fz fs fl).2.1 (pt_fml t mty fz fs fl).2.2.2.1 (pt_fml t mty fz fs fl).2.2.2.2.2 e.2.2.2.2.2.1 e.2.2.2.2.2.2.1 } => [mo_c o mth mty x0 ex.1.1 ex.1.2.1 ex.1.2.2.1 ex.1.2.2.2.1 ex.1.2.2.2.2.1 x1 x2 x3 mhf mhp mcl mck mba mct x4 x5 x6 x7 x8 mst x9 x10 x11 x12 mtr mrs x13 x14 x15 x16 mwr x17 mfo, ar_n cI x0 250 t, ar_n cI x1 16 ex.1.2.2.2.2.2.1, ar_i cI x2 128 ex.1.2.2.2.2.2.2.1, ar_b cZ x3 16 ex.1.2.2.2.2.2.2.2]) A) ([.ref o] : List Value).toArray s 0 0 A) (F0 m 161 ls []) := by
    intro c1 c2 c3 c4 rz9 rl9 rd9 y9 H locs ls hP hD hS hl hFf
    refine lv_iconst (v := nI 0) hx hb dc_Mo_readFormula_161 (by decide +kernel) ?_
    refine lv_istore_n (lv' := [(3, .int (nI 0)), (2, .int y9), (0, .ref o)]) hx hb dc_Mo_readFormula_162 rfl hl (by decide) rfl (fun ls hl => ?_)
    exact jn_163 _ _ _ _ _ _ _ _ _ _ _ _ hP hD hS hl hFf
  have jn_119 : ∀ (c1 : Nat) (c2 : Nat) (c3 : Nat) (c4 : Nat) (rz9 : Nat → Nat) (rl9 : Nat → Int32) (rd9 : Nat → Bool) (H : Heap) (locs : List Loc) (ls : Array Slot), va_P D kc_l [mo_c o mth mty x0 c1 c2 c3 false c4 x1 x2 x3 mhf mhp mcl mck mba mct x4 x5 x6 x7 x8 mst x9 x10 x11 x12 mtr mrs x13 x14 x15 x16 mwr x17 mfo, ar_n cI x0 250 t, ar_n cI x1 16 rz9, ar_i cI x2 128 rl9, ar_b cZ x3 16 rd9] H → va_D A [mo_c o mth mty x0 c1 c2 c3 false c4 x1 x2 x3 mhf mhp mcl mck mba mct x4 x5 x6 x7 x8 mst x9 x10 x11 x12 mtr mrs x13 x14 x15 x16 mwr x17 mfo, ar_n cI x0 250 t, ar_n cI x1 16 rz9, ar_i cI x2 128 rl9, ar_b cZ x3 16 rd9] → va_S A s.heap H locs → lv_has ls 4 [(0, .ref o)] → ((pt_fml t mty fz fs fl).1 = false) → W p l e ({ frames := 3, cells := 0, slots := 0, locals := 63 } : Room) s m ([.ref o] : List Value).toArray below meth c H locs 0 0 (MQ below (kw_e (some (.int (kb_i ((pt_fml t mty fz fs fl).1)))) D kc_l (fun ex : { e : Nat × Nat × Nat × Bool × Nat × (Nat → Nat) × (Nat → Int32) × (Nat → Bool) // (pt_fml t mty fz fs fl).1 = true → e.2.2.2.2.1 = (pt_fml t mty fz fs fl).2.1 ∧ pt_rel (pt_fml t mty fz fs fl).2.1 (pt_fml t mty fz fs fl).2.2.2.1 (pt_fml t mty fz fs fl).2.2.2.2.2 e.2.2.2.2.2.1 e.2.2.2.2.2.2.1 } => [mo_c o mth mty x0 ex.1.1 ex.1.2.1 ex.1.2.2.1 ex.1.2.2.2.1 ex.1.2.2.2.2.1 x1 x2 x3 mhf mhp mcl mck mba mct x4 x5 x6 x7 x8 mst x9 x10 x11 x12 mtr mrs x13 x14 x15 x16 mwr x17 mfo, ar_n cI x0 250 t, ar_n cI x1 16 ex.1.2.2.2.2.2.1, ar_i cI x2 128 ex.1.2.2.2.2.2.2.1, ar_b cZ x3 16 ex.1.2.2.2.2.2.2.2]) A) ([.ref o] : List Value).toArray s 0 0 A) (F0 m 119 ls []) := by
    intro c1 c2 c3 c4 rz9 rl9 rd9 H locs ls hP hD hS hl hFf
    refine lv_aload_n hx hb dc_Mo_readFormula_119 rfl (lv_at hl 0 rfl) ?_
    refine va_get (ci := 10) (v := .int (kb_i false)) (C := rn_Mo) (T := fd_Mo) (N := 36) hx hb hts in_Mo hown hK hP 0 rfl rfl 6 (by decide) (hts _ wd_752) (fun _ h9 => h9) rfl dc_Mo_readFormula_120 ?_
    refine kb_if_eq hx hb dc_Mo_readFormula_123 rfl (fun hc123 => ?_) (fun hc123 => ?_)
    · refine lv_iconst (v := nI 0) hx hb dc_Mo_readFormula_133 (by decide +kernel) ?_
      refine lv_istore_n (lv' := [(2, .int (nI 0)), (0, .ref o)]) hx hb dc_Mo_readFormula_134 rfl hl (by decide) rfl (fun ls hl => ?_)
      refine lv_aload_n hx hb dc_Mo_readFormula_135 rfl (lv_at hl 1 rfl) ?_
      refine lv_aload_n hx hb dc_Mo_readFormula_136 rfl (lv_at hl 1 rfl) ?_
      refine va_get (ci := 10) (v := .int (kb_i false)) (C := rn_Mo) (T := fd_Mo) (N := 36) hx hb hts in_Mo hown hK hP 0 rfl rfl 6 (by decide) (hts _ wd_752) (fun _ h9 => h9) rfl dc_Mo_readFormula_137 ?_
      refine kb_if_eq hx hb dc_Mo_readFormula_140 rfl (fun hc140 => ?_) (fun hc140 => ?_)
      · refine lv_iconst (v := nI 0) hx hb dc_Mo_readFormula_157 (by decide +kernel) ?_
        refine kn_top (y := kb_i false) (by decide +kernel) ?_
        refine va_put (ci := 10) (v := .int (kb_i false)) (ty := .boolean) (C := rn_Mo) (T := fd_Mo) (N := 36) hx hb hts in_Mo ty_Mo tk_Mo nm_Mo hown hK hP hD hS 0 rfl rfl 6 (by decide) (hts _ wd_752) (fun _ h9 => h9) rfl (by decide +kernel) (kb_nar _) (kb_fit _) (Nat.le_of_ble_eq_true rfl) dc_Mo_readFormula_158 (fun H locs hP hD hS => ?_)
        have hP : va_P D kc_l [mo_c o mth mty x0 c1 c2 c3 false c4 x1 x2 x3 mhf mhp mcl mck mba mct x4 x5 x6 x7 x8 mst x9 x10 x11 x12 mtr mrs x13 x14 x15 x16 mwr x17 mfo, ar_n cI x0 250 t, ar_n cI x1 16 rz9, ar_i cI x2 128 rl9, ar_b cZ x3 16 rd9] H := hP
        have hD : va_D A [mo_c o mth mty x0 c1 c2 c3 false c4 x1 x2 x3 mhf mhp mcl mck mba mct x4 x5 x6 x7 x8 mst x9 x10 x11 x12 mtr mrs x13 x14 x15 x16 mwr x17 mfo, ar_n cI x0 250 t, ar_n cI x1 16 rz9, ar_i cI x2 128 rl9, ar_b cZ x3 16 rd9] := hD
        exact jn_161 _ _ _ _ _ _ _ _ _ _ _ hP hD hS hl hFf
      · exact absurd hc140 (by decide)
    · exact absurd hc123 (by decide)
  have jn_69 : ∀ (c1 : Nat) (c2 : Nat) (c3 : Nat) (c4 : Nat) (rz9 : Nat → Nat) (rl9 : Nat → Int32) (rd9 : Nat → Bool) (H : Heap) (locs : List Loc) (ls : Array Slot), va_P D kc_l [mo_c o mth mty x0 c1 c2 c3 false c4 x1 x2 x3 mhf mhp mcl mck mba mct x4 x5 x6 x7 x8 mst x9 x10 x11 x12 mtr mrs x13 x14 x15 x16 mwr x17 mfo, ar_n cI x0 250 t, ar_n cI x1 16 rz9, ar_i cI x2 128 rl9, ar_b cZ x3 16 rd9] H → va_D A [mo_c o mth mty x0 c1 c2 c3 false c4 x1 x2 x3 mhf mhp mcl mck mba mct x4 x5 x6 x7 x8 mst x9 x10 x11 x12 mtr mrs x13 x14 x15 x16 mwr x17 mfo, ar_n cI x0 250 t, ar_n cI x1 16 rz9, ar_i cI x2 128 rl9, ar_b cZ x3 16 rd9] → va_S A s.heap H locs → lv_has ls 4 [(0, .ref o)] → ((pt_fml t mty fz fs fl).1 = false) → W p l e ({ frames := 3, cells := 0, slots := 0, locals := 63 } : Room) s m ([.ref o] : List Value).toArray below meth c H locs 0 0 (MQ below (kw_e (some (.int (kb_i ((pt_fml t mty fz fs fl).1)))) D kc_l (fun ex : { e : Nat × Nat × Nat × Bool × Nat × (Nat → Nat) × (Nat → Int32) × (Nat → Bool) // (pt_fml t mty fz fs fl).1 = true → e.2.2.2.2.1 = (pt_fml t mty fz fs fl).2.1 ∧ pt_rel (pt_fml t mty fz fs fl).2.1 (pt_fml t mty fz fs fl).2.2.2.1 (pt_fml t mty fz fs fl).2.2.2.2.2 e.2.2.2.2.2.1 e.2.2.2.2.2.2.1 } => [mo_c o mth mty x0 ex.1.1 ex.1.2.1 ex.1.2.2.1 ex.1.2.2.2.1 ex.1.2.2.2.2.1 x1 x2 x3 mhf mhp mcl mck mba mct x4 x5 x6 x7 x8 mst x9 x10 x11 x12 mtr mrs x13 x14 x15 x16 mwr x17 mfo, ar_n cI x0 250 t, ar_n cI x1 16 ex.1.2.2.2.2.2.1, ar_i cI x2 128 ex.1.2.2.2.2.2.2.1, ar_b cZ x3 16 ex.1.2.2.2.2.2.2.2]) A) ([.ref o] : List Value).toArray s 0 0 A) (F0 m 69 ls []) := by
    intro c1 c2 c3 c4 rz9 rl9 rd9 H locs ls hP hD hS hl hFf
    refine lv_aload_n hx hb dc_Mo_readFormula_69 rfl (lv_at hl 0 rfl) ?_
    refine va_get (ci := 10) (v := .int (kb_i false)) (C := rn_Mo) (T := fd_Mo) (N := 36) hx hb hts in_Mo hown hK hP 0 rfl rfl 6 (by decide) (hts _ wd_752) (fun _ h9 => h9) rfl dc_Mo_readFormula_70 ?_
    refine kb_if_eq hx hb dc_Mo_readFormula_73 rfl (fun hc73 => ?_) (fun hc73 => ?_)
    · refine lv_iconst (v := nI 0) hx hb dc_Mo_readFormula_83 (by decide +kernel) ?_
      refine lv_istore_n (lv' := [(1, .int (nI 0)), (0, .ref o)]) hx hb dc_Mo_readFormula_84 rfl hl (by decide) rfl (fun ls hl => ?_)
      refine lv_aload_n hx hb dc_Mo_readFormula_85 rfl (lv_at hl 1 rfl) ?_
      refine lv_aload_n hx hb dc_Mo_readFormula_86 rfl (lv_at hl 1 rfl) ?_
      refine va_get (ci := 10) (v := .int (kb_i false)) (C := rn_Mo) (T := fd_Mo) (N := 36) hx hb hts in_Mo hown hK hP 0 rfl rfl 6 (by decide) (hts _ wd_752) (fun _ h9 => h9) rfl dc_Mo_readFormula_87 ?_
      refine kb_if_eq hx hb dc_Mo_readFormula_90 rfl (fun hc90 => ?_) (fun hc90 => ?_)
      · refine lv_iconst (v := nI 0) hx hb dc_Mo_readFormula_115 (by decide +kernel) ?_
        refine kn_top (y := kb_i false) (by decide +kernel) ?_
        refine va_put (ci := 10) (v := .int (kb_i false)) (ty := .boolean) (C := rn_Mo) (T := fd_Mo) (N := 36) hx hb hts in_Mo ty_Mo tk_Mo nm_Mo hown hK hP hD hS 0 rfl rfl 6 (by decide) (hts _ wd_752) (fun _ h9 => h9) rfl (by decide +kernel) (kb_nar _) (kb_fit _) (Nat.le_of_ble_eq_true rfl) dc_Mo_readFormula_116 (fun H locs hP hD hS => ?_)
        have hP : va_P D kc_l [mo_c o mth mty x0 c1 c2 c3 false c4 x1 x2 x3 mhf mhp mcl mck mba mct x4 x5 x6 x7 x8 mst x9 x10 x11 x12 mtr mrs x13 x14 x15 x16 mwr x17 mfo, ar_n cI x0 250 t, ar_n cI x1 16 rz9, ar_i cI x2 128 rl9, ar_b cZ x3 16 rd9] H := hP
        have hD : va_D A [mo_c o mth mty x0 c1 c2 c3 false c4 x1 x2 x3 mhf mhp mcl mck mba mct x4 x5 x6 x7 x8 mst x9 x10 x11 x12 mtr mrs x13 x14 x15 x16 mwr x17 mfo, ar_n cI x0 250 t, ar_n cI x1 16 rz9, ar_i cI x2 128 rl9, ar_b cZ x3 16 rd9] := hD
        have hl := lv_sub (l' := [(0, .ref o)]) hl [1] rfl
        exact jn_119 _ _ _ _ _ _ _ _ _ _ hP hD hS hl hFf
      · exact absurd hc90 (by decide)
    · exact absurd hc73 (by decide)
  refine lv_aload_n hx hb dc_Mo_readFormula_0 rfl (lv_at hl 0 rfl) ?_
  refine lv_iconst (v := nI 0) hx hb dc_Mo_readFormula_1 (by decide +kernel) ?_
  refine va_put (ci := 10) (v := .int (nI 0)) (ty := .int) (C := rn_Mo) (T := fd_Mo) (N := 36) hx hb hts in_Mo ty_Mo tk_Mo nm_Mo hown hK hP hD hS 0 rfl rfl 3 (by decide) (hts _ wd_749) (fun _ h9 => h9) rfl (by decide +kernel) rfl rfl (Nat.le_of_ble_eq_true rfl) dc_Mo_readFormula_2 (fun H locs hP hD hS => ?_)
  have hP : va_P D kc_l [mo_c o mth mty x0 0 mfr mto mgd mrd x1 x2 x3 mhf mhp mcl mck mba mct x4 x5 x6 x7 x8 mst x9 x10 x11 x12 mtr mrs x13 x14 x15 x16 mwr x17 mfo, ar_n cI x0 250 t, ar_n cI x1 16 rz, ar_i cI x2 128 rl, ar_b cZ x3 16 rd] H := hP
  have hD : va_D A [mo_c o mth mty x0 0 mfr mto mgd mrd x1 x2 x3 mhf mhp mcl mck mba mct x4 x5 x6 x7 x8 mst x9 x10 x11 x12 mtr mrs x13 x14 x15 x16 mwr x17 mfo, ar_n cI x0 250 t, ar_n cI x1 16 rz, ar_i cI x2 128 rl, ar_b cZ x3 16 rd] := hD
  refine lv_aload_n hx hb dc_Mo_readFormula_5 rfl (lv_at hl 0 rfl) ?_
  refine lv_iconst (v := nI 1) hx hb dc_Mo_readFormula_6 (by decide +kernel) ?_
  refine kn_top (y := kb_i true) (by decide +kernel) ?_
  refine va_put (ci := 10) (v := .int (kb_i true)) (ty := .boolean) (C := rn_Mo) (T := fd_Mo) (N := 36) hx hb hts in_Mo ty_Mo tk_Mo nm_Mo hown hK hP hD hS 0 rfl rfl 6 (by decide) (hts _ wd_752) (fun _ h9 => h9) rfl (by decide +kernel) (kb_nar _) (kb_fit _) (Nat.le_of_ble_eq_true rfl) dc_Mo_readFormula_7 (fun H locs hP hD hS => ?_)
  have hP : va_P D kc_l [mo_c o mth mty x0 0 mfr mto true mrd x1 x2 x3 mhf mhp mcl mck mba mct x4 x5 x6 x7 x8 mst x9 x10 x11 x12 mtr mrs x13 x14 x15 x16 mwr x17 mfo, ar_n cI x0 250 t, ar_n cI x1 16 rz, ar_i cI x2 128 rl, ar_b cZ x3 16 rd] H := hP
  have hD : va_D A [mo_c o mth mty x0 0 mfr mto true mrd x1 x2 x3 mhf mhp mcl mck mba mct x4 x5 x6 x7 x8 mst x9 x10 x11 x12 mtr mrs x13 x14 x15 x16 mwr x17 mfo, ar_n cI x0 250 t, ar_n cI x1 16 rz, ar_i cI x2 128 rl, ar_b cZ x3 16 rd] := hD
  refine lv_aload_n hx hb dc_Mo_readFormula_10 rfl (lv_at hl 0 rfl) ?_
  refine lv_iconst (v := nI 0) hx hb dc_Mo_readFormula_11 (by decide +kernel) ?_
  refine va_put (ci := 10) (v := .int (nI 0)) (ty := .int) (C := rn_Mo) (T := fd_Mo) (N := 36) hx hb hts in_Mo ty_Mo tk_Mo nm_Mo hown hK hP hD hS 0 rfl rfl 7 (by decide) (hts _ wd_753) (fun _ h9 => h9) rfl (by decide +kernel) rfl rfl (Nat.le_of_ble_eq_true rfl) dc_Mo_readFormula_12 (fun H locs hP hD hS => ?_)
  have hP : va_P D kc_l [mo_c o mth mty x0 0 mfr mto true 0 x1 x2 x3 mhf mhp mcl mck mba mct x4 x5 x6 x7 x8 mst x9 x10 x11 x12 mtr mrs x13 x14 x15 x16 mwr x17 mfo, ar_n cI x0 250 t, ar_n cI x1 16 rz, ar_i cI x2 128 rl, ar_b cZ x3 16 rd] H := hP
  have hD : va_D A [mo_c o mth mty x0 0 mfr mto true 0 x1 x2 x3 mhf mhp mcl mck mba mct x4 x5 x6 x7 x8 mst x9 x10 x11 x12 mtr mrs x13 x14 x15 x16 mwr x17 mfo, ar_n cI x0 250 t, ar_n cI x1 16 rz, ar_i cI x2 128 rl, ar_b cZ x3 16 rd] := hD
  refine lv_aload_n hx hb dc_Mo_readFormula_15 rfl (lv_at hl 0 rfl) ?_
  refine lv_aload_n hx hb dc_Mo_readFormula_16 rfl (lv_at hl 0 rfl) ?_
  refine kw_call1 (wr := [ar_n cI x1 16 rz, ar_i cI x2 128 rl, ar_b cZ x3 16 rd]) (ws' := [mo_c o mth mty x0 (pt_zz t mty 0) (pt_ws t mty 0) (pt_zz t mty 0) true 0 x1 x2 x3 mhf mhp mcl mck mba mct x4 x5 x6 x7 x8 mst x9 x10 x11 x12 mtr mrs x13 x14 x15 x16 mwr x17 mfo, ar_n cI x0 250 t, ar_n cI x1 16 rz, ar_i cI x2 128 rl, ar_b cZ x3 16 rd]) (va_runV (As := []) (rest := [.ref o]) ⟨hx, hb, hml, hown, hts⟩ (ct_Mo_word l D cI cZ _ o mth mty x0 0 mfr mto true 0 x1 x2 x3 mhf mhp mcl mck mba mct x4 x5 x6 x7 x8 mst x9 x10 x11 x12 mtr mrs x13 x14 x15 x16 mwr x17 mfo t (hty) (Nat.zero_le _) (ht)) (cwV 0 hts (kx_gV wd_876 wd_878 (kx_sel (q := (yn_Mo_word, 36)) (List.mem_append_left _ (List.mem_of_getElem? (i := 13) rfl))) wd_9 wd_879) rfl rfl rfl ⟨rfl, yd_Mo_word⟩ ⟨Nat.le_of_ble_eq_true rfl, Nat.le_of_ble_eq_true rfl⟩) (kp_V (q0 := 0) (ci := 10) hP hD hK hN [0, 1] rfl rfl rfl rfl rfl) rfl rfl hl.1 rfl (lv_room (Nat.le_of_ble_eq_true rfl)) dc_Mo_readFormula_17 ⟨Nat.le_of_ble_eq_true rfl, Nat.le_of_ble_eq_true rfl⟩) hP hD hS hA [0, 1] [2, 3, 4] [3, 4, 0, 1, 2] rfl rfl rfl (by decide) rfl rfl (fun H locs hP hD hS => ?_)
  refine kb_if_eq hx hb dc_Mo_readFormula_20 rfl (fun hc20 => ?_) (fun hc20 => ?_)
  · have hFf : (pt_fml t mty fz fs fl).1 = false := fok_f (fok_1 (w1_lt (of_decide_eq_false hc20)))
    refine lv_iconst (v := nI 0) hx hb dc_Mo_readFormula_65 (by decide +kernel) ?_
    refine kn_top (y := kb_i false) (by decide +kernel) ?_
    refine va_put (ci := 10) (v := .int (kb_i false)) (ty := .boolean) (C := rn_Mo) (T := fd_Mo) (N := 36) hx hb hts in_Mo ty_Mo tk_Mo nm_Mo hown hK hP hD hS 0 rfl rfl 6 (by decide) (hts _ wd_752) (fun _ h9 => h9) rfl (by decide +kernel) (kb_nar _) (kb_fit _) (Nat.le_of_ble_eq_true rfl) dc_Mo_readFormula_66 (fun H locs hP hD hS => ?_)
    have hP : va_P D kc_l [mo_c o mth mty x0 (pt_zz t mty 0) (pt_ws t mty 0) (pt_zz t mty 0) false 0 x1 x2 x3 mhf mhp mcl mck mba mct x4 x5 x6 x7 x8 mst x9 x10 x11 x12 mtr mrs x13 x14 x15 x16 mwr x17 mfo, ar_n cI x0 250 t, ar_n cI x1 16 rz, ar_i cI x2 128 rl, ar_b cZ x3 16 rd] H := hP
    have hD : va_D A [mo_c o mth mty x0 (pt_zz t mty 0) (pt_ws t mty 0) (pt_zz t mty 0) false 0 x1 x2 x3 mhf mhp mcl mck mba mct x4 x5 x6 x7 x8 mst x9 x10 x11 x12 mtr mrs x13 x14 x15 x16 mwr x17 mfo, ar_n cI x0 250 t, ar_n cI x1 16 rz, ar_i cI x2 128 rl, ar_b cZ x3 16 rd] := hD
    exact jn_69 _ _ _ _ _ _ _ _ _ _ hP hD hS hl hFf
  · refine lv_aload_n hx hb dc_Mo_readFormula_23 rfl (lv_at hl 0 rfl) ?_
    refine lv_bipush (v := nI 112) hx hb dc_Mo_readFormula_24 (by decide +kernel) ?_
    refine lv_iconst (v := nI 0) hx hb dc_Mo_readFormula_26 (by decide +kernel) ?_
    refine lv_iconst (v := nI 0) hx hb dc_Mo_readFormula_27 (by decide +kernel) ?_
    refine kr_call1 (va_runV (As := [.int (nI 112), .int (nI 0), .int (nI 0)]) (rest := [.ref o]) ⟨hx, hb, hml, hown, hts⟩ (ct_Mo_isWord1 l D cI cZ _ o mth mty x0 (pt_zz t mty 0) (pt_ws t mty 0) (pt_zz t mty 0) true 0 x1 x2 x3 mhf mhp mcl mck mba mct x4 x5 x6 x7 x8 mst x9 x10 x11 x12 mtr mrs x13 x14 x15 x16 mwr x17 mfo t 112 (ws_zz _ _ _) (Nat.le_trans (zz_le (Nat.zero_le _)) hty) (ht) (by decide)) (cwV 3 hts (kx_gV wd_883 wd_885 (kx_sel (q := (yn_Mo_isWord, 36)) (List.mem_append_left _ (List.mem_of_getElem? (i := 14) rfl))) wd_9 wd_886) rfl rfl rfl ⟨rfl, yd_Mo_isWord⟩ ⟨Nat.le_of_ble_eq_true rfl, Nat.le_of_ble_eq_true rfl⟩) (kp_V (q0 := 0) (ci := 10) hP hD hK hN [0, 1] rfl rfl rfl rfl rfl) rfl rfl hl.1 rfl (lv_room (Nat.le_of_ble_eq_true rfl)) dc_Mo_readFormula_28 ⟨Nat.le_of_ble_eq_true rfl, Nat.le_of_ble_eq_true rfl⟩) ?_
    refine kb_if_eq hx hb dc_Mo_readFormula_31 rfl (fun hc31 => ?_) (fun hc31 => ?_)
    · have hFf : (pt_fml t mty fz fs fl).1 = false := fok_f (fok_1 hc31)
      refine lv_iconst (v := nI 0) hx hb dc_Mo_readFormula_65 (by decide +kernel) ?_
      refine kn_top (y := kb_i false) (by decide +kernel) ?_
      refine va_put (ci := 10) (v := .int (kb_i false)) (ty := .boolean) (C := rn_Mo) (T := fd_Mo) (N := 36) hx hb hts in_Mo ty_Mo tk_Mo nm_Mo hown hK hP hD hS 0 rfl rfl 6 (by decide) (hts _ wd_752) (fun _ h9 => h9) rfl (by decide +kernel) (kb_nar _) (kb_fit _) (Nat.le_of_ble_eq_true rfl) dc_Mo_readFormula_66 (fun H locs hP hD hS => ?_)
      have hP : va_P D kc_l [mo_c o mth mty x0 (pt_zz t mty 0) (pt_ws t mty 0) (pt_zz t mty 0) false 0 x1 x2 x3 mhf mhp mcl mck mba mct x4 x5 x6 x7 x8 mst x9 x10 x11 x12 mtr mrs x13 x14 x15 x16 mwr x17 mfo, ar_n cI x0 250 t, ar_n cI x1 16 rz, ar_i cI x2 128 rl, ar_b cZ x3 16 rd] H := hP
      have hD : va_D A [mo_c o mth mty x0 (pt_zz t mty 0) (pt_ws t mty 0) (pt_zz t mty 0) false 0 x1 x2 x3 mhf mhp mcl mck mba mct x4 x5 x6 x7 x8 mst x9 x10 x11 x12 mtr mrs x13 x14 x15 x16 mwr x17 mfo, ar_n cI x0 250 t, ar_n cI x1 16 rz, ar_i cI x2 128 rl, ar_b cZ x3 16 rd] := hD
      exact jn_69 _ _ _ _ _ _ _ _ _ _ hP hD hS hl hFf
    · refine lv_aload_n hx hb dc_Mo_readFormula_34 rfl (lv_at hl 0 rfl) ?_
      refine kw_call1 (wr := [ar_n cI x1 16 rz, ar_i cI x2 128 rl, ar_b cZ x3 16 rd]) (ws' := [mo_c o mth mty x0 (pt_zz t mty (pt_zz t mty 0)) (pt_ws t mty (pt_zz t mty 0)) (pt_zz t mty (pt_zz t mty 0)) true 0 x1 x2 x3 mhf mhp mcl mck mba mct x4 x5 x6 x7 x8 mst x9 x10 x11 x12 mtr mrs x13 x14 x15 x16 mwr x17 mfo, ar_n cI x0 250 t, ar_n cI x1 16 rz, ar_i cI x2 128 rl, ar_b cZ x3 16 rd]) (va_runV (As := []) (rest := [.ref o]) ⟨hx, hb, hml, hown, hts⟩ (ct_Mo_word l D cI cZ _ o mth mty x0 (pt_zz t mty 0) (pt_ws t mty 0) (pt_zz t mty 0) true 0 x1 x2 x3 mhf mhp mcl mck mba mct x4 x5 x6 x7 x8 mst x9 x10 x11 x12 mtr mrs x13 x14 x15 x16 mwr x17 mfo t (hty) (zz_le (Nat.zero_le _)) (ht)) (cwV 0 hts (kx_gV wd_876 wd_878 (kx_sel (q := (yn_Mo_word, 36)) (List.mem_append_left _ (List.mem_of_getElem? (i := 13) rfl))) wd_9 wd_879) rfl rfl rfl ⟨rfl, yd_Mo_word⟩ ⟨Nat.le_of_ble_eq_true rfl, Nat.le_of_ble_eq_true rfl⟩) (kp_V (q0 := 0) (ci := 10) hP hD hK hN [0, 1] rfl rfl rfl rfl rfl) rfl rfl hl.1 rfl (lv_room (Nat.le_of_ble_eq_true rfl)) dc_Mo_readFormula_35 ⟨Nat.le_of_ble_eq_true rfl, Nat.le_of_ble_eq_true rfl⟩) hP hD hS hA [0, 1] [2, 3, 4] [3, 4, 0, 1, 2] rfl rfl rfl (by decide) rfl rfl (fun H locs hP hD hS => ?_)
      refine kb_if_eq hx hb dc_Mo_readFormula_38 rfl (fun hc38 => ?_) (fun hc38 => ?_)
      · have hFf : (pt_fml t mty fz fs fl).1 = false := fok_f (fok_3 (w3_lt (of_decide_eq_false hc38)))
        refine lv_iconst (v := nI 0) hx hb dc_Mo_readFormula_65 (by decide +kernel) ?_
        refine kn_top (y := kb_i false) (by decide +kernel) ?_
        refine va_put (ci := 10) (v := .int (kb_i false)) (ty := .boolean) (C := rn_Mo) (T := fd_Mo) (N := 36) hx hb hts in_Mo ty_Mo tk_Mo nm_Mo hown hK hP hD hS 0 rfl rfl 6 (by decide) (hts _ wd_752) (fun _ h9 => h9) rfl (by decide +kernel) (kb_nar _) (kb_fit _) (Nat.le_of_ble_eq_true rfl) dc_Mo_readFormula_66 (fun H locs hP hD hS => ?_)
        have hP : va_P D kc_l [mo_c o mth mty x0 (pt_zz t mty (pt_zz t mty 0)) (pt_ws t mty (pt_zz t mty 0)) (pt_zz t mty (pt_zz t mty 0)) false 0 x1 x2 x3 mhf mhp mcl mck mba mct x4 x5 x6 x7 x8 mst x9 x10 x11 x12 mtr mrs x13 x14 x15 x16 mwr x17 mfo, ar_n cI x0 250 t, ar_n cI x1 16 rz, ar_i cI x2 128 rl, ar_b cZ x3 16 rd] H := hP
        have hD : va_D A [mo_c o mth mty x0 (pt_zz t mty (pt_zz t mty 0)) (pt_ws t mty (pt_zz t mty 0)) (pt_zz t mty (pt_zz t mty 0)) false 0 x1 x2 x3 mhf mhp mcl mck mba mct x4 x5 x6 x7 x8 mst x9 x10 x11 x12 mtr mrs x13 x14 x15 x16 mwr x17 mfo, ar_n cI x0 250 t, ar_n cI x1 16 rz, ar_i cI x2 128 rl, ar_b cZ x3 16 rd] := hD
        exact jn_69 _ _ _ _ _ _ _ _ _ _ hP hD hS hl hFf
      · refine lv_aload_n hx hb dc_Mo_readFormula_41 rfl (lv_at hl 0 rfl) ?_
        refine lv_bipush (v := nI 99) hx hb dc_Mo_readFormula_42 (by decide +kernel) ?_
        refine lv_bipush (v := nI 110) hx hb dc_Mo_readFormula_44 (by decide +kernel) ?_
        refine lv_bipush (v := nI 102) hx hb dc_Mo_readFormula_46 (by decide +kernel) ?_
        refine kr_call1 (va_runV (As := [.int (nI 99), .int (nI 110), .int (nI 102)]) (rest := [.ref o]) ⟨hx, hb, hml, hown, hts⟩ (ct_Mo_isWord3 l D cI cZ _ o mth mty x0 (pt_zz t mty (pt_zz t mty 0)) (pt_ws t mty (pt_zz t mty 0)) (pt_zz t mty (pt_zz t mty 0)) true 0 x1 x2 x3 mhf mhp mcl mck mba mct x4 x5 x6 x7 x8 mst x9 x10 x11 x12 mtr mrs x13 x14 x15 x16 mwr x17 mfo t 99 110 102 (ws_zz _ _ _) (Nat.le_trans (zz_le (zz_le (Nat.zero_le _))) hty) (ht) (by decide) (by decide) (by decide) (by decide)) (cwV 3 hts (kx_gV wd_883 wd_885 (kx_sel (q := (yn_Mo_isWord, 36)) (List.mem_append_left _ (List.mem_of_getElem? (i := 14) rfl))) wd_9 wd_886) rfl rfl rfl ⟨rfl, yd_Mo_isWord⟩ ⟨Nat.le_of_ble_eq_true rfl, Nat.le_of_ble_eq_true rfl⟩) (kp_V (q0 := 0) (ci := 10) hP hD hK hN [0, 1] rfl rfl rfl rfl rfl) rfl rfl hl.1 rfl (lv_room (Nat.le_of_ble_eq_true rfl)) dc_Mo_readFormula_48 ⟨Nat.le_of_ble_eq_true rfl, Nat.le_of_ble_eq_true rfl⟩) ?_
        refine kb_if_eq hx hb dc_Mo_readFormula_51 rfl (fun hc51 => ?_) (fun hc51 => ?_)
        · have hFf : (pt_fml t mty fz fs fl).1 = false := fok_f (fok_3 hc51)
          refine lv_iconst (v := nI 0) hx hb dc_Mo_readFormula_65 (by decide +kernel) ?_
          refine kn_top (y := kb_i false) (by decide +kernel) ?_
          refine va_put (ci := 10) (v := .int (kb_i false)) (ty := .boolean) (C := rn_Mo) (T := fd_Mo) (N := 36) hx hb hts in_Mo ty_Mo tk_Mo nm_Mo hown hK hP hD hS 0 rfl rfl 6 (by decide) (hts _ wd_752) (fun _ h9 => h9) rfl (by decide +kernel) (kb_nar _) (kb_fit _) (Nat.le_of_ble_eq_true rfl) dc_Mo_readFormula_66 (fun H locs hP hD hS => ?_)
          have hP : va_P D kc_l [mo_c o mth mty x0 (pt_zz t mty (pt_zz t mty 0)) (pt_ws t mty (pt_zz t mty 0)) (pt_zz t mty (pt_zz t mty 0)) false 0 x1 x2 x3 mhf mhp mcl mck mba mct x4 x5 x6 x7 x8 mst x9 x10 x11 x12 mtr mrs x13 x14 x15 x16 mwr x17 mfo, ar_n cI x0 250 t, ar_n cI x1 16 rz, ar_i cI x2 128 rl, ar_b cZ x3 16 rd] H := hP
          have hD : va_D A [mo_c o mth mty x0 (pt_zz t mty (pt_zz t mty 0)) (pt_ws t mty (pt_zz t mty 0)) (pt_zz t mty (pt_zz t mty 0)) false 0 x1 x2 x3 mhf mhp mcl mck mba mct x4 x5 x6 x7 x8 mst x9 x10 x11 x12 mtr mrs x13 x14 x15 x16 mwr x17 mfo, ar_n cI x0 250 t, ar_n cI x1 16 rz, ar_i cI x2 128 rl, ar_b cZ x3 16 rd] := hD
          exact jn_69 _ _ _ _ _ _ _ _ _ _ hP hD hS hl hFf
        · refine lv_aload_n hx hb dc_Mo_readFormula_54 rfl (lv_at hl 0 rfl) ?_
          refine kw_call1 (wr := [ar_n cI x1 16 rz, ar_i cI x2 128 rl, ar_b cZ x3 16 rd]) (ws' := [mo_c o mth mty x0 (pt_zz t mty (pt_zz t mty (pt_zz t mty 0))) (pt_ws t mty (pt_zz t mty (pt_zz t mty 0))) (pt_zz t mty (pt_zz t mty (pt_zz t mty 0))) true 0 x1 x2 x3 mhf mhp mcl mck mba mct x4 x5 x6 x7 x8 mst x9 x10 x11 x12 mtr mrs x13 x14 x15 x16 mwr x17 mfo, ar_n cI x0 250 t, ar_n cI x1 16 rz, ar_i cI x2 128 rl, ar_b cZ x3 16 rd]) (va_runV (As := []) (rest := [.ref o]) ⟨hx, hb, hml, hown, hts⟩ (ct_Mo_word l D cI cZ _ o mth mty x0 (pt_zz t mty (pt_zz t mty 0)) (pt_ws t mty (pt_zz t mty 0)) (pt_zz t mty (pt_zz t mty 0)) true 0 x1 x2 x3 mhf mhp mcl mck mba mct x4 x5 x6 x7 x8 mst x9 x10 x11 x12 mtr mrs x13 x14 x15 x16 mwr x17 mfo t (hty) (zz_le (zz_le (Nat.zero_le _))) (ht)) (cwV 0 hts (kx_gV wd_876 wd_878 (kx_sel (q := (yn_Mo_word, 36)) (List.mem_append_left _ (List.mem_of_getElem? (i := 13) rfl))) wd_9 wd_879) rfl rfl rfl ⟨rfl, yd_Mo_word⟩ ⟨Nat.le_of_ble_eq_true rfl, Nat.le_of_ble_eq_true rfl⟩) (kp_V (q0 := 0) (ci := 10) hP hD hK hN [0, 1] rfl rfl rfl rfl rfl) rfl rfl hl.1 rfl (lv_room (Nat.le_of_ble_eq_true rfl)) dc_Mo_readFormula_55 ⟨Nat.le_of_ble_eq_true rfl, Nat.le_of_ble_eq_true rfl⟩) hP hD hS hA [0, 1] [2, 3, 4] [3, 4, 0, 1, 2] rfl rfl rfl (by decide) rfl rfl (fun H locs hP hD hS => ?_)
          refine kb_if_eq hx hb dc_Mo_readFormula_58 rfl (fun hc58 => ?_) (fun hc58 => ?_)
          · have hFf : (pt_fml t mty fz fs fl).1 = false := fok_f (fok_n (iv_no (pi_e (of_decide_eq_false hc58))) rfl (Or.inl (by decide +kernel)))
            refine lv_iconst (v := nI 0) hx hb dc_Mo_readFormula_65 (by decide +kernel) ?_
            refine kn_top (y := kb_i false) (by decide +kernel) ?_
            refine va_put (ci := 10) (v := .int (kb_i false)) (ty := .boolean) (C := rn_Mo) (T := fd_Mo) (N := 36) hx hb hts in_Mo ty_Mo tk_Mo nm_Mo hown hK hP hD hS 0 rfl rfl 6 (by decide) (hts _ wd_752) (fun _ h9 => h9) rfl (by decide +kernel) (kb_nar _) (kb_fit _) (Nat.le_of_ble_eq_true rfl) dc_Mo_readFormula_66 (fun H locs hP hD hS => ?_)
            have hP : va_P D kc_l [mo_c o mth mty x0 (pt_zz t mty (pt_zz t mty (pt_zz t mty 0))) (pt_ws t mty (pt_zz t mty (pt_zz t mty 0))) (pt_zz t mty (pt_zz t mty (pt_zz t mty 0))) false 0 x1 x2 x3 mhf mhp mcl mck mba mct x4 x5 x6 x7 x8 mst x9 x10 x11 x12 mtr mrs x13 x14 x15 x16 mwr x17 mfo, ar_n cI x0 250 t, ar_n cI x1 16 rz, ar_i cI x2 128 rl, ar_b cZ x3 16 rd] H := hP
            have hD : va_D A [mo_c o mth mty x0 (pt_zz t mty (pt_zz t mty (pt_zz t mty 0))) (pt_ws t mty (pt_zz t mty (pt_zz t mty 0))) (pt_zz t mty (pt_zz t mty (pt_zz t mty 0))) false 0 x1 x2 x3 mhf mhp mcl mck mba mct x4 x5 x6 x7 x8 mst x9 x10 x11 x12 mtr mrs x13 x14 x15 x16 mwr x17 mfo, ar_n cI x0 250 t, ar_n cI x1 16 rz, ar_i cI x2 128 rl, ar_b cZ x3 16 rd] := hD
            exact jn_69 _ _ _ _ _ _ _ _ _ _ hP hD hS hl hFf
          · refine lv_iconst (v := nI 1) hx hb dc_Mo_readFormula_61 (by decide +kernel) ?_
            refine lv_goto hx hb dc_Mo_readFormula_62 rfl ?_
            refine kn_top (y := kb_i true) (by decide +kernel) ?_
            refine va_put (ci := 10) (v := .int (kb_i true)) (ty := .boolean) (C := rn_Mo) (T := fd_Mo) (N := 36) hx hb hts in_Mo ty_Mo tk_Mo nm_Mo hown hK hP hD hS 0 rfl rfl 6 (by decide) (hts _ wd_752) (fun _ h9 => h9) rfl (by decide +kernel) (kb_nar _) (kb_fit _) (Nat.le_of_ble_eq_true rfl) dc_Mo_readFormula_66 (fun H locs hP hD hS => ?_)
            have hP : va_P D kc_l [mo_c o mth mty x0 (pt_zz t mty (pt_zz t mty (pt_zz t mty 0))) (pt_ws t mty (pt_zz t mty (pt_zz t mty 0))) (pt_zz t mty (pt_zz t mty (pt_zz t mty 0))) true 0 x1 x2 x3 mhf mhp mcl mck mba mct x4 x5 x6 x7 x8 mst x9 x10 x11 x12 mtr mrs x13 x14 x15 x16 mwr x17 mfo, ar_n cI x0 250 t, ar_n cI x1 16 rz, ar_i cI x2 128 rl, ar_b cZ x3 16 rd] H := hP
            have hD : va_D A [mo_c o mth mty x0 (pt_zz t mty (pt_zz t mty (pt_zz t mty 0))) (pt_ws t mty (pt_zz t mty (pt_zz t mty 0))) (pt_zz t mty (pt_zz t mty (pt_zz t mty 0))) true 0 x1 x2 x3 mhf mhp mcl mck mba mct x4 x5 x6 x7 x8 mst x9 x10 x11 x12 mtr mrs x13 x14 x15 x16 mwr x17 mfo, ar_n cI x0 250 t, ar_n cI x1 16 rz, ar_i cI x2 128 rl, ar_b cZ x3 16 rd] := hD
            refine lv_aload_n hx hb dc_Mo_readFormula_69 rfl (lv_at hl 0 rfl) ?_
            refine va_get (ci := 10) (v := .int (kb_i true)) (C := rn_Mo) (T := fd_Mo) (N := 36) hx hb hts in_Mo hown hK hP 0 rfl rfl 6 (by decide) (hts _ wd_752) (fun _ h9 => h9) rfl dc_Mo_readFormula_70 ?_
            refine kb_if_eq hx hb dc_Mo_readFormula_73 rfl (fun hc73 => ?_) (fun hc73 => ?_)
            · exact absurd hc73 (by decide)
            · refine lv_aload_n hx hb dc_Mo_readFormula_76 rfl (lv_at hl 0 rfl) ?_
              refine kw_call1 (wr := [ar_n cI x1 16 rz, ar_i cI x2 128 rl, ar_b cZ x3 16 rd]) (ws' := [mo_c o mth mty x0 (pt_zz t mty (pt_zz t mty (pt_zz t mty 0))) (pt_ws t mty (pt_zz t mty (pt_zz t mty 0))) (pt_zz t mty (pt_zz t mty (pt_zz t mty 0))) ((pt_int t (pt_ws t mty (pt_zz t mty (pt_zz t mty 0))) (pt_zz t mty (pt_zz t mty (pt_zz t mty 0)))).isSome) 0 x1 x2 x3 mhf mhp mcl mck mba mct x4 x5 x6 x7 x8 mst x9 x10 x11 x12 mtr mrs x13 x14 x15 x16 mwr x17 mfo, ar_n cI x0 250 t, ar_n cI x1 16 rz, ar_i cI x2 128 rl, ar_b cZ x3 16 rd]) (va_runV (As := []) (rest := []) ⟨hx, hb, hml, hown, hts⟩ (ct_Mo_integer l D cI cZ _ o mth mty x0 (pt_zz t mty (pt_zz t mty (pt_zz t mty 0))) (pt_ws t mty (pt_zz t mty (pt_zz t mty 0))) (pt_zz t mty (pt_zz t mty (pt_zz t mty 0))) true 0 x1 x2 x3 mhf mhp mcl mck mba mct x4 x5 x6 x7 x8 mst x9 x10 x11 x12 mtr mrs x13 x14 x15 x16 mwr x17 mfo t (rfl) (ws_zz _ _ _) (Nat.le_trans (zz_le (zz_le (zz_le (Nat.zero_le _)))) hty) (ht)) (cwV 0 hts (kx_gV wd_887 wd_889 (kx_sel (q := (yn_Mo_integer, 36)) (List.mem_append_left _ (List.mem_of_getElem? (i := 15) rfl))) wd_9 wd_890) rfl rfl rfl ⟨rfl, yd_Mo_integer⟩ ⟨Nat.le_of_ble_eq_true rfl, Nat.le_of_ble_eq_true rfl⟩) (kp_V (q0 := 0) (ci := 10) hP hD hK hN [0, 1] rfl rfl rfl rfl rfl) rfl rfl hl.1 rfl (lv_room (Nat.le_of_ble_eq_true rfl)) dc_Mo_readFormula_77 ⟨Nat.le_of_ble_eq_true rfl, Nat.le_of_ble_eq_true rfl⟩) hP hD hS hA [0, 1] [2, 3, 4] [3, 4, 0, 1, 2] rfl rfl rfl (by decide) rfl rfl (fun H locs hP hD hS => ?_)
              rcases hpx : pt_int t (pt_ws t mty (pt_zz t mty (pt_zz t mty 0))) (pt_zz t mty (pt_zz t mty (pt_zz t mty 0))) with _ | ux
              · have hFf : (pt_fml t mty fz fs fl).1 = false := fok_f (fok_n (iv_no hpx) rfl (Or.inl (by decide +kernel)))
                have hP : va_P D kc_l [mo_c o mth mty x0 (pt_zz t mty (pt_zz t mty (pt_zz t mty 0))) (pt_ws t mty (pt_zz t mty (pt_zz t mty 0))) (pt_zz t mty (pt_zz t mty (pt_zz t mty 0))) false 0 x1 x2 x3 mhf mhp mcl mck mba mct x4 x5 x6 x7 x8 mst x9 x10 x11 x12 mtr mrs x13 x14 x15 x16 mwr x17 mfo, ar_n cI x0 250 t, ar_n cI x1 16 rz, ar_i cI x2 128 rl, ar_b cZ x3 16 rd] H := by rw [show (false : Bool) = (pt_int t (pt_ws t mty (pt_zz t mty (pt_zz t mty 0))) (pt_zz t mty (pt_zz t mty (pt_zz t mty 0)))).isSome by rw [hpx]; rfl]; exact hP
                have hD : va_D A [mo_c o mth mty x0 (pt_zz t mty (pt_zz t mty (pt_zz t mty 0))) (pt_ws t mty (pt_zz t mty (pt_zz t mty 0))) (pt_zz t mty (pt_zz t mty (pt_zz t mty 0))) false 0 x1 x2 x3 mhf mhp mcl mck mba mct x4 x5 x6 x7 x8 mst x9 x10 x11 x12 mtr mrs x13 x14 x15 x16 mwr x17 mfo, ar_n cI x0 250 t, ar_n cI x1 16 rz, ar_i cI x2 128 rl, ar_b cZ x3 16 rd] := by rw [show (false : Bool) = (pt_int t (pt_ws t mty (pt_zz t mty (pt_zz t mty 0))) (pt_zz t mty (pt_zz t mty (pt_zz t mty 0)))).isSome by rw [hpx]; rfl]; exact hD
                refine kn_top (y := nI 0) rfl ?_
                refine lv_goto hx hb dc_Mo_readFormula_80 rfl ?_
                refine lv_istore_n (lv' := [(1, .int (nI 0)), (0, .ref o)]) hx hb dc_Mo_readFormula_84 rfl hl (by decide) rfl (fun ls hl => ?_)
                refine lv_aload_n hx hb dc_Mo_readFormula_85 rfl (lv_at hl 1 rfl) ?_
                refine lv_aload_n hx hb dc_Mo_readFormula_86 rfl (lv_at hl 1 rfl) ?_
                refine va_get (ci := 10) (v := .int (kb_i false)) (C := rn_Mo) (T := fd_Mo) (N := 36) hx hb hts in_Mo hown hK hP 0 rfl rfl 6 (by decide) (hts _ wd_752) (fun _ h9 => h9) rfl dc_Mo_readFormula_87 ?_
                refine kb_if_eq hx hb dc_Mo_readFormula_90 rfl (fun hc90 => ?_) (fun hc90 => ?_)
                · refine lv_iconst (v := nI 0) hx hb dc_Mo_readFormula_115 (by decide +kernel) ?_
                  refine kn_top (y := kb_i false) (by decide +kernel) ?_
                  refine va_put (ci := 10) (v := .int (kb_i false)) (ty := .boolean) (C := rn_Mo) (T := fd_Mo) (N := 36) hx hb hts in_Mo ty_Mo tk_Mo nm_Mo hown hK hP hD hS 0 rfl rfl 6 (by decide) (hts _ wd_752) (fun _ h9 => h9) rfl (by decide +kernel) (kb_nar _) (kb_fit _) (Nat.le_of_ble_eq_true rfl) dc_Mo_readFormula_116 (fun H locs hP hD hS => ?_)
                  have hP : va_P D kc_l [mo_c o mth mty x0 (pt_zz t mty (pt_zz t mty (pt_zz t mty 0))) (pt_ws t mty (pt_zz t mty (pt_zz t mty 0))) (pt_zz t mty (pt_zz t mty (pt_zz t mty 0))) false 0 x1 x2 x3 mhf mhp mcl mck mba mct x4 x5 x6 x7 x8 mst x9 x10 x11 x12 mtr mrs x13 x14 x15 x16 mwr x17 mfo, ar_n cI x0 250 t, ar_n cI x1 16 rz, ar_i cI x2 128 rl, ar_b cZ x3 16 rd] H := hP
                  have hD : va_D A [mo_c o mth mty x0 (pt_zz t mty (pt_zz t mty (pt_zz t mty 0))) (pt_ws t mty (pt_zz t mty (pt_zz t mty 0))) (pt_zz t mty (pt_zz t mty (pt_zz t mty 0))) false 0 x1 x2 x3 mhf mhp mcl mck mba mct x4 x5 x6 x7 x8 mst x9 x10 x11 x12 mtr mrs x13 x14 x15 x16 mwr x17 mfo, ar_n cI x0 250 t, ar_n cI x1 16 rz, ar_i cI x2 128 rl, ar_b cZ x3 16 rd] := hD
                  have hl := lv_sub (l' := [(0, .ref o)]) hl [1] rfl
                  exact jn_119 _ _ _ _ _ _ _ _ _ _ hP hD hS hl hFf
                · exact absurd hc90 (by decide)
              · have hP : va_P D kc_l [mo_c o mth mty x0 (pt_zz t mty (pt_zz t mty (pt_zz t mty 0))) (pt_ws t mty (pt_zz t mty (pt_zz t mty 0))) (pt_zz t mty (pt_zz t mty (pt_zz t mty 0))) true 0 x1 x2 x3 mhf mhp mcl mck mba mct x4 x5 x6 x7 x8 mst x9 x10 x11 x12 mtr mrs x13 x14 x15 x16 mwr x17 mfo, ar_n cI x0 250 t, ar_n cI x1 16 rz, ar_i cI x2 128 rl, ar_b cZ x3 16 rd] H := by rw [show (true : Bool) = (pt_int t (pt_ws t mty (pt_zz t mty (pt_zz t mty 0))) (pt_zz t mty (pt_zz t mty (pt_zz t mty 0)))).isSome by rw [hpx]; rfl]; exact hP
                have hD : va_D A [mo_c o mth mty x0 (pt_zz t mty (pt_zz t mty (pt_zz t mty 0))) (pt_ws t mty (pt_zz t mty (pt_zz t mty 0))) (pt_zz t mty (pt_zz t mty (pt_zz t mty 0))) true 0 x1 x2 x3 mhf mhp mcl mck mba mct x4 x5 x6 x7 x8 mst x9 x10 x11 x12 mtr mrs x13 x14 x15 x16 mwr x17 mfo, ar_n cI x0 250 t, ar_n cI x1 16 rz, ar_i cI x2 128 rl, ar_b cZ x3 16 rd] := by rw [show (true : Bool) = (pt_int t (pt_ws t mty (pt_zz t mty (pt_zz t mty 0))) (pt_zz t mty (pt_zz t mty (pt_zz t mty 0)))).isSome by rw [hpx]; rfl]; exact hD
                refine kn_top (y := ux) rfl ?_
                refine lv_goto hx hb dc_Mo_readFormula_80 rfl ?_
                refine lv_istore_n (lv' := [(1, .int ux), (0, .ref o)]) hx hb dc_Mo_readFormula_84 rfl hl (by decide) rfl (fun ls hl => ?_)
                refine lv_aload_n hx hb dc_Mo_readFormula_85 rfl (lv_at hl 1 rfl) ?_
                refine lv_aload_n hx hb dc_Mo_readFormula_86 rfl (lv_at hl 1 rfl) ?_
                refine va_get (ci := 10) (v := .int (kb_i true)) (C := rn_Mo) (T := fd_Mo) (N := 36) hx hb hts in_Mo hown hK hP 0 rfl rfl 6 (by decide) (hts _ wd_752) (fun _ h9 => h9) rfl dc_Mo_readFormula_87 ?_
                refine kb_if_eq hx hb dc_Mo_readFormula_90 rfl (fun hc90 => ?_) (fun hc90 => ?_)
                · exact absurd hc90 (by decide)
                · refine lv_iload_n hx hb dc_Mo_readFormula_93 rfl (lv_at hl 0 rfl) ?_
                  refine lv_iconst (v := nI 1) hx hb dc_Mo_readFormula_94 (by decide +kernel) ?_
                  refine lv_icmp_lt hx hb dc_Mo_readFormula_95 rfl (fun hc95 => ?_) (fun hc95 => ?_)
                  · have hFf : (pt_fml t mty fz fs fl).1 = false := fok_f (fok_n (iv_s hpx) rfl (Or.inl hc95))
                    refine lv_iconst (v := nI 0) hx hb dc_Mo_readFormula_115 (by decide +kernel) ?_
                    refine kn_top (y := kb_i false) (by decide +kernel) ?_
                    refine va_put (ci := 10) (v := .int (kb_i false)) (ty := .boolean) (C := rn_Mo) (T := fd_Mo) (N := 36) hx hb hts in_Mo ty_Mo tk_Mo nm_Mo hown hK hP hD hS 0 rfl rfl 6 (by decide) (hts _ wd_752) (fun _ h9 => h9) rfl (by decide +kernel) (kb_nar _) (kb_fit _) (Nat.le_of_ble_eq_true rfl) dc_Mo_readFormula_116 (fun H locs hP hD hS => ?_)
                    have hP : va_P D kc_l [mo_c o mth mty x0 (pt_zz t mty (pt_zz t mty (pt_zz t mty 0))) (pt_ws t mty (pt_zz t mty (pt_zz t mty 0))) (pt_zz t mty (pt_zz t mty (pt_zz t mty 0))) false 0 x1 x2 x3 mhf mhp mcl mck mba mct x4 x5 x6 x7 x8 mst x9 x10 x11 x12 mtr mrs x13 x14 x15 x16 mwr x17 mfo, ar_n cI x0 250 t, ar_n cI x1 16 rz, ar_i cI x2 128 rl, ar_b cZ x3 16 rd] H := hP
                    have hD : va_D A [mo_c o mth mty x0 (pt_zz t mty (pt_zz t mty (pt_zz t mty 0))) (pt_ws t mty (pt_zz t mty (pt_zz t mty 0))) (pt_zz t mty (pt_zz t mty (pt_zz t mty 0))) false 0 x1 x2 x3 mhf mhp mcl mck mba mct x4 x5 x6 x7 x8 mst x9 x10 x11 x12 mtr mrs x13 x14 x15 x16 mwr x17 mfo, ar_n cI x0 250 t, ar_n cI x1 16 rz, ar_i cI x2 128 rl, ar_b cZ x3 16 rd] := hD
                    have hl := lv_sub (l' := [(0, .ref o)]) hl [1] rfl
                    exact jn_119 _ _ _ _ _ _ _ _ _ _ hP hD hS hl hFf
                  · refine lv_iload_n hx hb dc_Mo_readFormula_98 rfl (lv_at hl 0 rfl) ?_
                    refine lv_bipush (v := nI 8) hx hb dc_Mo_readFormula_99 (by decide +kernel) ?_
                    refine lv_icmp_gt hx hb dc_Mo_readFormula_101 rfl (fun hc101 => ?_) (fun hc101 => ?_)
                    · have hFf : (pt_fml t mty fz fs fl).1 = false := fok_f (fok_n (iv_s hpx) rfl (Or.inr (Or.inl hc101)))
                      refine lv_iconst (v := nI 0) hx hb dc_Mo_readFormula_115 (by decide +kernel) ?_
                      refine kn_top (y := kb_i false) (by decide +kernel) ?_
                      refine va_put (ci := 10) (v := .int (kb_i false)) (ty := .boolean) (C := rn_Mo) (T := fd_Mo) (N := 36) hx hb hts in_Mo ty_Mo tk_Mo nm_Mo hown hK hP hD hS 0 rfl rfl 6 (by decide) (hts _ wd_752) (fun _ h9 => h9) rfl (by decide +kernel) (kb_nar _) (kb_fit _) (Nat.le_of_ble_eq_true rfl) dc_Mo_readFormula_116 (fun H locs hP hD hS => ?_)
                      have hP : va_P D kc_l [mo_c o mth mty x0 (pt_zz t mty (pt_zz t mty (pt_zz t mty 0))) (pt_ws t mty (pt_zz t mty (pt_zz t mty 0))) (pt_zz t mty (pt_zz t mty (pt_zz t mty 0))) false 0 x1 x2 x3 mhf mhp mcl mck mba mct x4 x5 x6 x7 x8 mst x9 x10 x11 x12 mtr mrs x13 x14 x15 x16 mwr x17 mfo, ar_n cI x0 250 t, ar_n cI x1 16 rz, ar_i cI x2 128 rl, ar_b cZ x3 16 rd] H := hP
                      have hD : va_D A [mo_c o mth mty x0 (pt_zz t mty (pt_zz t mty (pt_zz t mty 0))) (pt_ws t mty (pt_zz t mty (pt_zz t mty 0))) (pt_zz t mty (pt_zz t mty (pt_zz t mty 0))) false 0 x1 x2 x3 mhf mhp mcl mck mba mct x4 x5 x6 x7 x8 mst x9 x10 x11 x12 mtr mrs x13 x14 x15 x16 mwr x17 mfo, ar_n cI x0 250 t, ar_n cI x1 16 rz, ar_i cI x2 128 rl, ar_b cZ x3 16 rd] := hD
                      have hl := lv_sub (l' := [(0, .ref o)]) hl [1] rfl
                      exact jn_119 _ _ _ _ _ _ _ _ _ _ hP hD hS hl hFf
                    · refine lv_aload_n hx hb dc_Mo_readFormula_104 rfl (lv_at hl 1 rfl) ?_
                      refine kw_call1 (wr := [ar_n cI x1 16 rz, ar_i cI x2 128 rl, ar_b cZ x3 16 rd]) (ws' := [mo_c o mth mty x0 (pt_zz t mty (pt_zz t mty (pt_zz t mty (pt_zz t mty 0)))) (pt_ws t mty (pt_zz t mty (pt_zz t mty (pt_zz t mty 0)))) (pt_zz t mty (pt_zz t mty (pt_zz t mty (pt_zz t mty 0)))) true 0 x1 x2 x3 mhf mhp mcl mck mba mct x4 x5 x6 x7 x8 mst x9 x10 x11 x12 mtr mrs x13 x14 x15 x16 mwr x17 mfo, ar_n cI x0 250 t, ar_n cI x1 16 rz, ar_i cI x2 128 rl, ar_b cZ x3 16 rd]) (va_runV (As := []) (rest := [.ref o]) ⟨hx, hb, hml, hown, hts⟩ (ct_Mo_word l D cI cZ _ o mth mty x0 (pt_zz t mty (pt_zz t mty (pt_zz t mty 0))) (pt_ws t mty (pt_zz t mty (pt_zz t mty 0))) (pt_zz t mty (pt_zz t mty (pt_zz t mty 0))) true 0 x1 x2 x3 mhf mhp mcl mck mba mct x4 x5 x6 x7 x8 mst x9 x10 x11 x12 mtr mrs x13 x14 x15 x16 mwr x17 mfo t (hty) (zz_le (zz_le (zz_le (Nat.zero_le _)))) (ht)) (cwV 0 hts (kx_gV wd_876 wd_878 (kx_sel (q := (yn_Mo_word, 36)) (List.mem_append_left _ (List.mem_of_getElem? (i := 13) rfl))) wd_9 wd_879) rfl rfl rfl ⟨rfl, yd_Mo_word⟩ ⟨Nat.le_of_ble_eq_true rfl, Nat.le_of_ble_eq_true rfl⟩) (kp_V (q0 := 0) (ci := 10) hP hD hK hN [0, 1] rfl rfl rfl rfl rfl) rfl rfl hl.1 rfl (lv_room (Nat.le_of_ble_eq_true rfl)) dc_Mo_readFormula_105 ⟨Nat.le_of_ble_eq_true rfl, Nat.le_of_ble_eq_true rfl⟩) hP hD hS hA [0, 1] [2, 3, 4] [3, 4, 0, 1, 2] rfl rfl rfl (by decide) rfl rfl (fun H locs hP hD hS => ?_)
                      refine kb_if_eq hx hb dc_Mo_readFormula_108 rfl (fun hc108 => ?_) (fun hc108 => ?_)
                      · have hFf : (pt_fml t mty fz fs fl).1 = false := fok_f (fok_n rfl (iv_no (pi_e (of_decide_eq_false hc108))) (Or.inr (Or.inr (Or.inl (by decide +kernel)))))
                        refine lv_iconst (v := nI 0) hx hb dc_Mo_readFormula_115 (by decide +kernel) ?_
                        refine kn_top (y := kb_i false) (by decide +kernel) ?_
                        refine va_put (ci := 10) (v := .int (kb_i false)) (ty := .boolean) (C := rn_Mo) (T := fd_Mo) (N := 36) hx hb hts in_Mo ty_Mo tk_Mo nm_Mo hown hK hP hD hS 0 rfl rfl 6 (by decide) (hts _ wd_752) (fun _ h9 => h9) rfl (by decide +kernel) (kb_nar _) (kb_fit _) (Nat.le_of_ble_eq_true rfl) dc_Mo_readFormula_116 (fun H locs hP hD hS => ?_)
                        have hP : va_P D kc_l [mo_c o mth mty x0 (pt_zz t mty (pt_zz t mty (pt_zz t mty (pt_zz t mty 0)))) (pt_ws t mty (pt_zz t mty (pt_zz t mty (pt_zz t mty 0)))) (pt_zz t mty (pt_zz t mty (pt_zz t mty (pt_zz t mty 0)))) false 0 x1 x2 x3 mhf mhp mcl mck mba mct x4 x5 x6 x7 x8 mst x9 x10 x11 x12 mtr mrs x13 x14 x15 x16 mwr x17 mfo, ar_n cI x0 250 t, ar_n cI x1 16 rz, ar_i cI x2 128 rl, ar_b cZ x3 16 rd] H := hP
                        have hD : va_D A [mo_c o mth mty x0 (pt_zz t mty (pt_zz t mty (pt_zz t mty (pt_zz t mty 0)))) (pt_ws t mty (pt_zz t mty (pt_zz t mty (pt_zz t mty 0)))) (pt_zz t mty (pt_zz t mty (pt_zz t mty (pt_zz t mty 0)))) false 0 x1 x2 x3 mhf mhp mcl mck mba mct x4 x5 x6 x7 x8 mst x9 x10 x11 x12 mtr mrs x13 x14 x15 x16 mwr x17 mfo, ar_n cI x0 250 t, ar_n cI x1 16 rz, ar_i cI x2 128 rl, ar_b cZ x3 16 rd] := hD
                        have hl := lv_sub (l' := [(0, .ref o)]) hl [1] rfl
                        exact jn_119 _ _ _ _ _ _ _ _ _ _ hP hD hS hl hFf
                      · refine lv_iconst (v := nI 1) hx hb dc_Mo_readFormula_111 (by decide +kernel) ?_
                        refine lv_goto hx hb dc_Mo_readFormula_112 rfl ?_
                        refine kn_top (y := kb_i true) (by decide +kernel) ?_
                        refine va_put (ci := 10) (v := .int (kb_i true)) (ty := .boolean) (C := rn_Mo) (T := fd_Mo) (N := 36) hx hb hts in_Mo ty_Mo tk_Mo nm_Mo hown hK hP hD hS 0 rfl rfl 6 (by decide) (hts _ wd_752) (fun _ h9 => h9) rfl (by decide +kernel) (kb_nar _) (kb_fit _) (Nat.le_of_ble_eq_true rfl) dc_Mo_readFormula_116 (fun H locs hP hD hS => ?_)
                        have hP : va_P D kc_l [mo_c o mth mty x0 (pt_zz t mty (pt_zz t mty (pt_zz t mty (pt_zz t mty 0)))) (pt_ws t mty (pt_zz t mty (pt_zz t mty (pt_zz t mty 0)))) (pt_zz t mty (pt_zz t mty (pt_zz t mty (pt_zz t mty 0)))) true 0 x1 x2 x3 mhf mhp mcl mck mba mct x4 x5 x6 x7 x8 mst x9 x10 x11 x12 mtr mrs x13 x14 x15 x16 mwr x17 mfo, ar_n cI x0 250 t, ar_n cI x1 16 rz, ar_i cI x2 128 rl, ar_b cZ x3 16 rd] H := hP
                        have hD : va_D A [mo_c o mth mty x0 (pt_zz t mty (pt_zz t mty (pt_zz t mty (pt_zz t mty 0)))) (pt_ws t mty (pt_zz t mty (pt_zz t mty (pt_zz t mty 0)))) (pt_zz t mty (pt_zz t mty (pt_zz t mty (pt_zz t mty 0)))) true 0 x1 x2 x3 mhf mhp mcl mck mba mct x4 x5 x6 x7 x8 mst x9 x10 x11 x12 mtr mrs x13 x14 x15 x16 mwr x17 mfo, ar_n cI x0 250 t, ar_n cI x1 16 rz, ar_i cI x2 128 rl, ar_b cZ x3 16 rd] := hD
                        refine lv_aload_n hx hb dc_Mo_readFormula_119 rfl (lv_at hl 1 rfl) ?_
                        refine va_get (ci := 10) (v := .int (kb_i true)) (C := rn_Mo) (T := fd_Mo) (N := 36) hx hb hts in_Mo hown hK hP 0 rfl rfl 6 (by decide) (hts _ wd_752) (fun _ h9 => h9) rfl dc_Mo_readFormula_120 ?_
                        refine kb_if_eq hx hb dc_Mo_readFormula_123 rfl (fun hc123 => ?_) (fun hc123 => ?_)
                        · exact absurd hc123 (by decide)
                        · refine lv_aload_n hx hb dc_Mo_readFormula_126 rfl (lv_at hl 1 rfl) ?_
                          refine kw_call1 (wr := [ar_n cI x1 16 rz, ar_i cI x2 128 rl, ar_b cZ x3 16 rd]) (ws' := [mo_c o mth mty x0 (pt_zz t mty (pt_zz t mty (pt_zz t mty (pt_zz t mty 0)))) (pt_ws t mty (pt_zz t mty (pt_zz t mty (pt_zz t mty 0)))) (pt_zz t mty (pt_zz t mty (pt_zz t mty (pt_zz t mty 0)))) ((pt_int t (pt_ws t mty (pt_zz t mty (pt_zz t mty (pt_zz t mty 0)))) (pt_zz t mty (pt_zz t mty (pt_zz t mty (pt_zz t mty 0))))).isSome) 0 x1 x2 x3 mhf mhp mcl mck mba mct x4 x5 x6 x7 x8 mst x9 x10 x11 x12 mtr mrs x13 x14 x15 x16 mwr x17 mfo, ar_n cI x0 250 t, ar_n cI x1 16 rz, ar_i cI x2 128 rl, ar_b cZ x3 16 rd]) (va_runV (As := []) (rest := []) ⟨hx, hb, hml, hown, hts⟩ (ct_Mo_integer l D cI cZ _ o mth mty x0 (pt_zz t mty (pt_zz t mty (pt_zz t mty (pt_zz t mty 0)))) (pt_ws t mty (pt_zz t mty (pt_zz t mty (pt_zz t mty 0)))) (pt_zz t mty (pt_zz t mty (pt_zz t mty (pt_zz t mty 0)))) true 0 x1 x2 x3 mhf mhp mcl mck mba mct x4 x5 x6 x7 x8 mst x9 x10 x11 x12 mtr mrs x13 x14 x15 x16 mwr x17 mfo t (rfl) (ws_zz _ _ _) (Nat.le_trans (zz_le (zz_le (zz_le (zz_le (Nat.zero_le _))))) hty) (ht)) (cwV 0 hts (kx_gV wd_887 wd_889 (kx_sel (q := (yn_Mo_integer, 36)) (List.mem_append_left _ (List.mem_of_getElem? (i := 15) rfl))) wd_9 wd_890) rfl rfl rfl ⟨rfl, yd_Mo_integer⟩ ⟨Nat.le_of_ble_eq_true rfl, Nat.le_of_ble_eq_true rfl⟩) (kp_V (q0 := 0) (ci := 10) hP hD hK hN [0, 1] rfl rfl rfl rfl rfl) rfl rfl hl.1 rfl (lv_room (Nat.le_of_ble_eq_true rfl)) dc_Mo_readFormula_127 ⟨Nat.le_of_ble_eq_true rfl, Nat.le_of_ble_eq_true rfl⟩) hP hD hS hA [0, 1] [2, 3, 4] [3, 4, 0, 1, 2] rfl rfl rfl (by decide) rfl rfl (fun H locs hP hD hS => ?_)
                          rcases hpy : pt_int t (pt_ws t mty (pt_zz t mty (pt_zz t mty (pt_zz t mty 0)))) (pt_zz t mty (pt_zz t mty (pt_zz t mty (pt_zz t mty 0)))) with _ | uy
                          · have hFf : (pt_fml t mty fz fs fl).1 = false := fok_f (fok_n rfl (iv_no hpy) (Or.inr (Or.inr (Or.inl (by decide +kernel)))))
                            have hP : va_P D kc_l [mo_c o mth mty x0 (pt_zz t mty (pt_zz t mty (pt_zz t mty (pt_zz t mty 0)))) (pt_ws t mty (pt_zz t mty (pt_zz t mty (pt_zz t mty 0)))) (pt_zz t mty (pt_zz t mty (pt_zz t mty (pt_zz t mty 0)))) false 0 x1 x2 x3 mhf mhp mcl mck mba mct x4 x5 x6 x7 x8 mst x9 x10 x11 x12 mtr mrs x13 x14 x15 x16 mwr x17 mfo, ar_n cI x0 250 t, ar_n cI x1 16 rz, ar_i cI x2 128 rl, ar_b cZ x3 16 rd] H := by rw [show (false : Bool) = (pt_int t (pt_ws t mty (pt_zz t mty (pt_zz t mty (pt_zz t mty 0)))) (pt_zz t mty (pt_zz t mty (pt_zz t mty (pt_zz t mty 0))))).isSome by rw [hpy]; rfl]; exact hP
                            have hD : va_D A [mo_c o mth mty x0 (pt_zz t mty (pt_zz t mty (pt_zz t mty (pt_zz t mty 0)))) (pt_ws t mty (pt_zz t mty (pt_zz t mty (pt_zz t mty 0)))) (pt_zz t mty (pt_zz t mty (pt_zz t mty (pt_zz t mty 0)))) false 0 x1 x2 x3 mhf mhp mcl mck mba mct x4 x5 x6 x7 x8 mst x9 x10 x11 x12 mtr mrs x13 x14 x15 x16 mwr x17 mfo, ar_n cI x0 250 t, ar_n cI x1 16 rz, ar_i cI x2 128 rl, ar_b cZ x3 16 rd] := by rw [show (false : Bool) = (pt_int t (pt_ws t mty (pt_zz t mty (pt_zz t mty (pt_zz t mty 0)))) (pt_zz t mty (pt_zz t mty (pt_zz t mty (pt_zz t mty 0))))).isSome by rw [hpy]; rfl]; exact hD
                            refine kn_top (y := nI 0) rfl ?_
                            refine lv_goto hx hb dc_Mo_readFormula_130 rfl ?_
                            refine lv_istore_n (lv' := [(2, .int (nI 0)), (1, .int ux), (0, .ref o)]) hx hb dc_Mo_readFormula_134 rfl hl (by decide) rfl (fun ls hl => ?_)
                            refine lv_aload_n hx hb dc_Mo_readFormula_135 rfl (lv_at hl 2 rfl) ?_
                            refine lv_aload_n hx hb dc_Mo_readFormula_136 rfl (lv_at hl 2 rfl) ?_
                            refine va_get (ci := 10) (v := .int (kb_i false)) (C := rn_Mo) (T := fd_Mo) (N := 36) hx hb hts in_Mo hown hK hP 0 rfl rfl 6 (by decide) (hts _ wd_752) (fun _ h9 => h9) rfl dc_Mo_readFormula_137 ?_
                            refine kb_if_eq hx hb dc_Mo_readFormula_140 rfl (fun hc140 => ?_) (fun hc140 => ?_)
                            · refine lv_iconst (v := nI 0) hx hb dc_Mo_readFormula_157 (by decide +kernel) ?_
                              refine kn_top (y := kb_i false) (by decide +kernel) ?_
                              refine va_put (ci := 10) (v := .int (kb_i false)) (ty := .boolean) (C := rn_Mo) (T := fd_Mo) (N := 36) hx hb hts in_Mo ty_Mo tk_Mo nm_Mo hown hK hP hD hS 0 rfl rfl 6 (by decide) (hts _ wd_752) (fun _ h9 => h9) rfl (by decide +kernel) (kb_nar _) (kb_fit _) (Nat.le_of_ble_eq_true rfl) dc_Mo_readFormula_158 (fun H locs hP hD hS => ?_)
                              have hP : va_P D kc_l [mo_c o mth mty x0 (pt_zz t mty (pt_zz t mty (pt_zz t mty (pt_zz t mty 0)))) (pt_ws t mty (pt_zz t mty (pt_zz t mty (pt_zz t mty 0)))) (pt_zz t mty (pt_zz t mty (pt_zz t mty (pt_zz t mty 0)))) false 0 x1 x2 x3 mhf mhp mcl mck mba mct x4 x5 x6 x7 x8 mst x9 x10 x11 x12 mtr mrs x13 x14 x15 x16 mwr x17 mfo, ar_n cI x0 250 t, ar_n cI x1 16 rz, ar_i cI x2 128 rl, ar_b cZ x3 16 rd] H := hP
                              have hD : va_D A [mo_c o mth mty x0 (pt_zz t mty (pt_zz t mty (pt_zz t mty (pt_zz t mty 0)))) (pt_ws t mty (pt_zz t mty (pt_zz t mty (pt_zz t mty 0)))) (pt_zz t mty (pt_zz t mty (pt_zz t mty (pt_zz t mty 0)))) false 0 x1 x2 x3 mhf mhp mcl mck mba mct x4 x5 x6 x7 x8 mst x9 x10 x11 x12 mtr mrs x13 x14 x15 x16 mwr x17 mfo, ar_n cI x0 250 t, ar_n cI x1 16 rz, ar_i cI x2 128 rl, ar_b cZ x3 16 rd] := hD
                              have hl := lv_sub (l' := [(2, .int (nI 0)), (0, .ref o)]) hl [0, 2] rfl
                              exact jn_161 _ _ _ _ _ _ _ _ _ _ _ hP hD hS hl hFf
                            · exact absurd hc140 (by decide)
                          · have hP : va_P D kc_l [mo_c o mth mty x0 (pt_zz t mty (pt_zz t mty (pt_zz t mty (pt_zz t mty 0)))) (pt_ws t mty (pt_zz t mty (pt_zz t mty (pt_zz t mty 0)))) (pt_zz t mty (pt_zz t mty (pt_zz t mty (pt_zz t mty 0)))) true 0 x1 x2 x3 mhf mhp mcl mck mba mct x4 x5 x6 x7 x8 mst x9 x10 x11 x12 mtr mrs x13 x14 x15 x16 mwr x17 mfo, ar_n cI x0 250 t, ar_n cI x1 16 rz, ar_i cI x2 128 rl, ar_b cZ x3 16 rd] H := by rw [show (true : Bool) = (pt_int t (pt_ws t mty (pt_zz t mty (pt_zz t mty (pt_zz t mty 0)))) (pt_zz t mty (pt_zz t mty (pt_zz t mty (pt_zz t mty 0))))).isSome by rw [hpy]; rfl]; exact hP
                            have hD : va_D A [mo_c o mth mty x0 (pt_zz t mty (pt_zz t mty (pt_zz t mty (pt_zz t mty 0)))) (pt_ws t mty (pt_zz t mty (pt_zz t mty (pt_zz t mty 0)))) (pt_zz t mty (pt_zz t mty (pt_zz t mty (pt_zz t mty 0)))) true 0 x1 x2 x3 mhf mhp mcl mck mba mct x4 x5 x6 x7 x8 mst x9 x10 x11 x12 mtr mrs x13 x14 x15 x16 mwr x17 mfo, ar_n cI x0 250 t, ar_n cI x1 16 rz, ar_i cI x2 128 rl, ar_b cZ x3 16 rd] := by rw [show (true : Bool) = (pt_int t (pt_ws t mty (pt_zz t mty (pt_zz t mty (pt_zz t mty 0)))) (pt_zz t mty (pt_zz t mty (pt_zz t mty (pt_zz t mty 0))))).isSome by rw [hpy]; rfl]; exact hD
                            refine kn_top (y := uy) rfl ?_
                            refine lv_goto hx hb dc_Mo_readFormula_130 rfl ?_
                            refine lv_istore_n (lv' := [(2, .int uy), (1, .int ux), (0, .ref o)]) hx hb dc_Mo_readFormula_134 rfl hl (by decide) rfl (fun ls hl => ?_)
                            refine lv_aload_n hx hb dc_Mo_readFormula_135 rfl (lv_at hl 2 rfl) ?_
                            refine lv_aload_n hx hb dc_Mo_readFormula_136 rfl (lv_at hl 2 rfl) ?_
                            refine va_get (ci := 10) (v := .int (kb_i true)) (C := rn_Mo) (T := fd_Mo) (N := 36) hx hb hts in_Mo hown hK hP 0 rfl rfl 6 (by decide) (hts _ wd_752) (fun _ h9 => h9) rfl dc_Mo_readFormula_137 ?_
                            refine kb_if_eq hx hb dc_Mo_readFormula_140 rfl (fun hc140 => ?_) (fun hc140 => ?_)
                            · exact absurd hc140 (by decide)
                            · refine lv_iload_n hx hb dc_Mo_readFormula_143 rfl (lv_at hl 0 rfl) ?_
                              refine lv_if_lt hx hb dc_Mo_readFormula_144 rfl (fun hc144 => ?_) (fun hc144 => ?_)
                              · have hFf : (pt_fml t mty fz fs fl).1 = false := fok_f (fok_n rfl (iv_s hpy) (Or.inr (Or.inr (Or.inl hc144))))
                                refine lv_iconst (v := nI 0) hx hb dc_Mo_readFormula_157 (by decide +kernel) ?_
                                refine kn_top (y := kb_i false) (by decide +kernel) ?_
                                refine va_put (ci := 10) (v := .int (kb_i false)) (ty := .boolean) (C := rn_Mo) (T := fd_Mo) (N := 36) hx hb hts in_Mo ty_Mo tk_Mo nm_Mo hown hK hP hD hS 0 rfl rfl 6 (by decide) (hts _ wd_752) (fun _ h9 => h9) rfl (by decide +kernel) (kb_nar _) (kb_fit _) (Nat.le_of_ble_eq_true rfl) dc_Mo_readFormula_158 (fun H locs hP hD hS => ?_)
                                have hP : va_P D kc_l [mo_c o mth mty x0 (pt_zz t mty (pt_zz t mty (pt_zz t mty (pt_zz t mty 0)))) (pt_ws t mty (pt_zz t mty (pt_zz t mty (pt_zz t mty 0)))) (pt_zz t mty (pt_zz t mty (pt_zz t mty (pt_zz t mty 0)))) false 0 x1 x2 x3 mhf mhp mcl mck mba mct x4 x5 x6 x7 x8 mst x9 x10 x11 x12 mtr mrs x13 x14 x15 x16 mwr x17 mfo, ar_n cI x0 250 t, ar_n cI x1 16 rz, ar_i cI x2 128 rl, ar_b cZ x3 16 rd] H := hP
                                have hD : va_D A [mo_c o mth mty x0 (pt_zz t mty (pt_zz t mty (pt_zz t mty (pt_zz t mty 0)))) (pt_ws t mty (pt_zz t mty (pt_zz t mty (pt_zz t mty 0)))) (pt_zz t mty (pt_zz t mty (pt_zz t mty (pt_zz t mty 0)))) false 0 x1 x2 x3 mhf mhp mcl mck mba mct x4 x5 x6 x7 x8 mst x9 x10 x11 x12 mtr mrs x13 x14 x15 x16 mwr x17 mfo, ar_n cI x0 250 t, ar_n cI x1 16 rz, ar_i cI x2 128 rl, ar_b cZ x3 16 rd] := hD
                                have hl := lv_sub (l' := [(2, .int uy), (0, .ref o)]) hl [0, 2] rfl
                                exact jn_161 _ _ _ _ _ _ _ _ _ _ _ hP hD hS hl hFf
                              · refine lv_iload_n hx hb dc_Mo_readFormula_147 rfl (lv_at hl 0 rfl) ?_
                                refine lv_bipush (v := nI 16) hx hb dc_Mo_readFormula_148 (by decide +kernel) ?_
                                refine lv_icmp_gt hx hb dc_Mo_readFormula_150 rfl (fun hc150 => ?_) (fun hc150 => ?_)
                                · have hFf : (pt_fml t mty fz fs fl).1 = false := fok_f (fok_n rfl (iv_s hpy) (Or.inr (Or.inr (Or.inr hc150))))
                                  refine lv_iconst (v := nI 0) hx hb dc_Mo_readFormula_157 (by decide +kernel) ?_
                                  refine kn_top (y := kb_i false) (by decide +kernel) ?_
                                  refine va_put (ci := 10) (v := .int (kb_i false)) (ty := .boolean) (C := rn_Mo) (T := fd_Mo) (N := 36) hx hb hts in_Mo ty_Mo tk_Mo nm_Mo hown hK hP hD hS 0 rfl rfl 6 (by decide) (hts _ wd_752) (fun _ h9 => h9) rfl (by decide +kernel) (kb_nar _) (kb_fit _) (Nat.le_of_ble_eq_true rfl) dc_Mo_readFormula_158 (fun H locs hP hD hS => ?_)
                                  have hP : va_P D kc_l [mo_c o mth mty x0 (pt_zz t mty (pt_zz t mty (pt_zz t mty (pt_zz t mty 0)))) (pt_ws t mty (pt_zz t mty (pt_zz t mty (pt_zz t mty 0)))) (pt_zz t mty (pt_zz t mty (pt_zz t mty (pt_zz t mty 0)))) false 0 x1 x2 x3 mhf mhp mcl mck mba mct x4 x5 x6 x7 x8 mst x9 x10 x11 x12 mtr mrs x13 x14 x15 x16 mwr x17 mfo, ar_n cI x0 250 t, ar_n cI x1 16 rz, ar_i cI x2 128 rl, ar_b cZ x3 16 rd] H := hP
                                  have hD : va_D A [mo_c o mth mty x0 (pt_zz t mty (pt_zz t mty (pt_zz t mty (pt_zz t mty 0)))) (pt_ws t mty (pt_zz t mty (pt_zz t mty (pt_zz t mty 0)))) (pt_zz t mty (pt_zz t mty (pt_zz t mty (pt_zz t mty 0)))) false 0 x1 x2 x3 mhf mhp mcl mck mba mct x4 x5 x6 x7 x8 mst x9 x10 x11 x12 mtr mrs x13 x14 x15 x16 mwr x17 mfo, ar_n cI x0 250 t, ar_n cI x1 16 rz, ar_i cI x2 128 rl, ar_b cZ x3 16 rd] := hD
                                  have hl := lv_sub (l' := [(2, .int uy), (0, .ref o)]) hl [0, 2] rfl
                                  exact jn_161 _ _ _ _ _ _ _ _ _ _ _ hP hD hS hl hFf
                                · obtain ⟨v, hv31, hve⟩ := nI_of (x := ux) (fun q9 => hc95 (ni_lt1 q9 1 (by decide)))
                                  subst hve
                                  obtain ⟨M, hM31, hMe⟩ := nI_of (x := uy) hc144
                                  subst hMe
                                  have hv1 : 1 ≤ v := (Nat.eq_zero_or_pos v).elim (fun q9 => absurd (by rw [q9]; decide +kernel) hc95) id
                                  have hv8 : v ≤ 8 := Nat.le_of_not_lt (fun q9 => hc101 (i_lt q9 hv31))
                                  have hM16 : M ≤ 16 := Nat.le_of_not_lt (fun q9 => hc150 (i_lt q9 hM31))
                                  refine lv_iconst (v := nI 1) hx hb dc_Mo_readFormula_153 (by decide +kernel) ?_
                                  refine lv_goto hx hb dc_Mo_readFormula_154 rfl ?_
                                  refine kn_top (y := kb_i true) (by decide +kernel) ?_
                                  refine va_put (ci := 10) (v := .int (kb_i true)) (ty := .boolean) (C := rn_Mo) (T := fd_Mo) (N := 36) hx hb hts in_Mo ty_Mo tk_Mo nm_Mo hown hK hP hD hS 0 rfl rfl 6 (by decide) (hts _ wd_752) (fun _ h9 => h9) rfl (by decide +kernel) (kb_nar _) (kb_fit _) (Nat.le_of_ble_eq_true rfl) dc_Mo_readFormula_158 (fun H locs hP hD hS => ?_)
                                  have hP : va_P D kc_l [mo_c o mth mty x0 (pt_zz t mty (pt_zz t mty (pt_zz t mty (pt_zz t mty 0)))) (pt_ws t mty (pt_zz t mty (pt_zz t mty (pt_zz t mty 0)))) (pt_zz t mty (pt_zz t mty (pt_zz t mty (pt_zz t mty 0)))) true 0 x1 x2 x3 mhf mhp mcl mck mba mct x4 x5 x6 x7 x8 mst x9 x10 x11 x12 mtr mrs x13 x14 x15 x16 mwr x17 mfo, ar_n cI x0 250 t, ar_n cI x1 16 rz, ar_i cI x2 128 rl, ar_b cZ x3 16 rd] H := hP
                                  have hD : va_D A [mo_c o mth mty x0 (pt_zz t mty (pt_zz t mty (pt_zz t mty (pt_zz t mty 0)))) (pt_ws t mty (pt_zz t mty (pt_zz t mty (pt_zz t mty 0)))) (pt_zz t mty (pt_zz t mty (pt_zz t mty (pt_zz t mty 0)))) true 0 x1 x2 x3 mhf mhp mcl mck mba mct x4 x5 x6 x7 x8 mst x9 x10 x11 x12 mtr mrs x13 x14 x15 x16 mwr x17 mfo, ar_n cI x0 250 t, ar_n cI x1 16 rz, ar_i cI x2 128 rl, ar_b cZ x3 16 rd] := hD
                                  refine lv_iconst (v := nI 0) hx hb dc_Mo_readFormula_161 (by decide +kernel) ?_
                                  refine lv_istore_n (lv' := [(3, .int (nI 0)), (2, .int (nI M)), (1, .int (nI v)), (0, .ref o)]) hx hb dc_Mo_readFormula_162 rfl hl (by decide) rfl (fun ls hl => ?_)
                                  have lp_163 : ∀ (K : Nat) (k : Nat) (q1 : Nat) (fz1 : Nat → Nat) (fs1 : Nat → Nat) (fl1 : Nat → Int32) (rz1 : Nat → Nat) (rl1 : Nat → Int32) (rd1 : Nat → Bool) (a1 : Nat) (a2 : Nat) (H : Heap) (locs : List Loc) (ls : Array Slot), M - k < K → va_P D kc_l [mo_c o mth mty x0 q1 a1 a2 true k x1 x2 x3 mhf mhp mcl mck mba mct x4 x5 x6 x7 x8 mst x9 x10 x11 x12 mtr mrs x13 x14 x15 x16 mwr x17 mfo, ar_n cI x0 250 t, ar_n cI x1 16 rz1, ar_i cI x2 128 rl1, ar_b cZ x3 16 rd1] H → va_D A [mo_c o mth mty x0 q1 a1 a2 true k x1 x2 x3 mhf mhp mcl mck mba mct x4 x5 x6 x7 x8 mst x9 x10 x11 x12 mtr mrs x13 x14 x15 x16 mwr x17 mfo, ar_n cI x0 250 t, ar_n cI x1 16 rz1, ar_i cI x2 128 rl1, ar_b cZ x3 16 rd1] → va_S A s.heap H locs → lv_has ls 4 [(3, .int (nI k)), (2, .int (nI M)), (1, .int (nI v)), (0, .ref o)] → (pt_rows t mty v (M - k) k q1 fz1 fs1 fl1 = pt_rows t mty v M 0 (pt_zz t mty (pt_zz t mty (pt_zz t mty (pt_zz t mty 0)))) fz fs fl) → (k ≤ M) → (q1 ≤ mty) → (pt_rel k fz1 fl1 rz1 rl1) → W p l e ({ frames := 3, cells := 0, slots := 0, locals := 63 } : Room) s m ([.ref o] : List Value).toArray below meth c H locs 0 0 (MQ below (kw_e (some (.int (kb_i ((pt_fml t mty fz fs fl).1)))) D kc_l (fun ex : { e : Nat × Nat × Nat × Bool × Nat × (Nat → Nat) × (Nat → Int32) × (Nat → Bool) // (pt_fml t mty fz fs fl).1 = true → e.2.2.2.2.1 = (pt_fml t mty fz fs fl).2.1 ∧ pt_rel (pt_fml t mty fz fs fl).2.1 (pt_fml t mty fz fs fl).2.2.2.1 (pt_fml t mty fz fs fl).2.2.2.2.2 e.2.2.2.2.2.1 e.2.2.2.2.2.2.1 } => [mo_c o mth mty x0 ex.1.1 ex.1.2.1 ex.1.2.2.1 ex.1.2.2.2.1 ex.1.2.2.2.2.1 x1 x2 x3 mhf mhp mcl mck mba mct x4 x5 x6 x7 x8 mst x9 x10 x11 x12 mtr mrs x13 x14 x15 x16 mwr x17 mfo, ar_n cI x0 250 t, ar_n cI x1 16 ex.1.2.2.2.2.2.1, ar_i cI x2 128 ex.1.2.2.2.2.2.2.1, ar_b cZ x3 16 ex.1.2.2.2.2.2.2.2]) A) ([.ref o] : List Value).toArray s 0 0 A) (F0 m 163 ls []) := by
                                    intro K
                                    induction K with
                                    | zero =>
                                      intro k q1 fz1 fs1 fl1 rz1 rl1 rd1 a1 a2 H locs ls hk
                                      exact absurd hk (Nat.not_lt_zero _)
                                    | succ K ih_163 =>
                                      intro k q1 fz1 fs1 fl1 rz1 rl1 rd1 a1 a2 H locs ls hk hP hD hS hl h1 h2 h4 hr1
                                      refine lv_iload_n hx hb dc_Mo_readFormula_163 rfl (lv_at hl 0 rfl) ?_
                                      refine lv_iload_n hx hb dc_Mo_readFormula_164 rfl (lv_at hl 1 rfl) ?_
                                      refine kn_icmp_ge hx hb (by omega) (by omega) dc_Mo_readFormula_165 rfl (fun hc165 => ?_) (fun hc165 => ?_)
                                      · refine lv_aload_n hx hb dc_Mo_readFormula_202 rfl (lv_at hl 3 rfl) ?_
                                        refine va_get (ci := 10) (v := .int (kb_i true)) (C := rn_Mo) (T := fd_Mo) (N := 36) hx hb hts in_Mo hown hK hP 0 rfl rfl 6 (by decide) (hts _ wd_752) (fun _ h9 => h9) rfl dc_Mo_readFormula_203 ?_
                                        refine kb_if_eq hx hb dc_Mo_readFormula_206 rfl (fun hc206 => ?_) (fun hc206 => ?_)
                                        · exact absurd hc206 (by decide)
                                        · refine lv_aload_n hx hb dc_Mo_readFormula_209 rfl (lv_at hl 3 rfl) ?_
                                          refine kw_call1 (wr := [ar_n cI x1 16 rz1, ar_i cI x2 128 rl1, ar_b cZ x3 16 rd1]) (ws' := [mo_c o mth mty x0 (pt_zz t mty q1) (pt_ws t mty q1) (pt_zz t mty q1) true k x1 x2 x3 mhf mhp mcl mck mba mct x4 x5 x6 x7 x8 mst x9 x10 x11 x12 mtr mrs x13 x14 x15 x16 mwr x17 mfo, ar_n cI x0 250 t, ar_n cI x1 16 rz1, ar_i cI x2 128 rl1, ar_b cZ x3 16 rd1]) (va_runV (As := []) (rest := []) ⟨hx, hb, hml, hown, hts⟩ (ct_Mo_word l D cI cZ _ o mth mty x0 q1 a1 a2 true k x1 x2 x3 mhf mhp mcl mck mba mct x4 x5 x6 x7 x8 mst x9 x10 x11 x12 mtr mrs x13 x14 x15 x16 mwr x17 mfo t (hty) (h4) (ht)) (cwV 0 hts (kx_gV wd_876 wd_878 (kx_sel (q := (yn_Mo_word, 36)) (List.mem_append_left _ (List.mem_of_getElem? (i := 13) rfl))) wd_9 wd_879) rfl rfl rfl ⟨rfl, yd_Mo_word⟩ ⟨Nat.le_of_ble_eq_true rfl, Nat.le_of_ble_eq_true rfl⟩) (kp_V (q0 := 0) (ci := 10) hP hD hK hN [0, 1] rfl rfl rfl rfl rfl) rfl rfl hl.1 rfl (lv_room (Nat.le_of_ble_eq_true rfl)) dc_Mo_readFormula_210 ⟨Nat.le_of_ble_eq_true rfl, Nat.le_of_ble_eq_true rfl⟩) hP hD hS hA [0, 1] [2, 3, 4] [3, 4, 0, 1, 2] rfl rfl rfl (by decide) rfl rfl (fun H locs hP hD hS => ?_)
                                          refine kb_if_ne hx hb dc_Mo_readFormula_213 rfl (fun hc213 => ?_) (fun hc213 => ?_)
                                          · have hFf : (pt_fml t mty fz fs fl).1 = false := by rw [fml_y hc31 hc51 (iv_s hpx) (iv_s hpy) hv1 hv8 hM16 rfl, ← h1, rows_en (by omega)]; dsimp only; rw [hc213]; rfl
                                            refine lv_iconst (v := nI 0) hx hb dc_Mo_readFormula_220 (by decide +kernel) ?_
                                            refine kn_top (y := kb_i false) (by decide +kernel) ?_
                                            exact ke_zret (x := ⟨(pt_zz t mty q1, pt_ws t mty q1, pt_zz t mty q1, true, k, rz1, rl1, rd1), fun q9 => absurd q9 (by rw [hFf]; decide)⟩) hx hb hr hlocks hP hD hS dc_Mo_readFormula_221 (by rw [hFf]) (rfl)
                                          · have hFt : pt_fml t mty fz fs fl = (true, k, q1, fz1, fs1, fl1) := by rw [fml_y hc31 hc51 (iv_s hpx) (iv_s hpy) hv1 hv8 hM16 rfl, ← h1, rows_en (by omega)]; dsimp only; rw [hc213]; rfl
                                            refine lv_iconst (v := nI 1) hx hb dc_Mo_readFormula_216 (by decide +kernel) ?_
                                            refine lv_goto hx hb dc_Mo_readFormula_217 rfl ?_
                                            refine kn_top (y := kb_i true) (by decide +kernel) ?_
                                            exact ke_zret (x := ⟨(pt_zz t mty q1, pt_ws t mty q1, pt_zz t mty q1, true, k, rz1, rl1, rd1), fun _ => by rw [hFt]; exact ⟨rfl, hr1⟩⟩) hx hb hr hlocks hP hD hS dc_Mo_readFormula_221 (by rw [hFt]) (rfl)
                                      · refine lv_aload_n hx hb dc_Mo_readFormula_168 rfl (lv_at hl 3 rfl) ?_
                                        refine va_get (ci := 10) (v := .int (kb_i true)) (C := rn_Mo) (T := fd_Mo) (N := 36) hx hb hts in_Mo hown hK hP 0 rfl rfl 6 (by decide) (hts _ wd_752) (fun _ h9 => h9) rfl dc_Mo_readFormula_169 ?_
                                        refine kb_if_eq hx hb dc_Mo_readFormula_172 rfl (fun hc172 => ?_) (fun hc172 => ?_)
                                        · exact absurd hc172 (by decide)
                                        · refine lv_aload_n hx hb dc_Mo_readFormula_175 rfl (lv_at hl 3 rfl) ?_
                                          refine lv_aload_n hx hb dc_Mo_readFormula_176 rfl (lv_at hl 3 rfl) ?_
                                          refine kw_call1 (wr := [ar_n cI x1 16 rz1, ar_i cI x2 128 rl1, ar_b cZ x3 16 rd1]) (ws' := [mo_c o mth mty x0 (pt_zz t mty q1) (pt_ws t mty q1) (pt_zz t mty q1) true k x1 x2 x3 mhf mhp mcl mck mba mct x4 x5 x6 x7 x8 mst x9 x10 x11 x12 mtr mrs x13 x14 x15 x16 mwr x17 mfo, ar_n cI x0 250 t, ar_n cI x1 16 rz1, ar_i cI x2 128 rl1, ar_b cZ x3 16 rd1]) (va_runV (As := []) (rest := [.ref o]) ⟨hx, hb, hml, hown, hts⟩ (ct_Mo_word l D cI cZ _ o mth mty x0 q1 a1 a2 true k x1 x2 x3 mhf mhp mcl mck mba mct x4 x5 x6 x7 x8 mst x9 x10 x11 x12 mtr mrs x13 x14 x15 x16 mwr x17 mfo t (hty) (h4) (ht)) (cwV 0 hts (kx_gV wd_876 wd_878 (kx_sel (q := (yn_Mo_word, 36)) (List.mem_append_left _ (List.mem_of_getElem? (i := 13) rfl))) wd_9 wd_879) rfl rfl rfl ⟨rfl, yd_Mo_word⟩ ⟨Nat.le_of_ble_eq_true rfl, Nat.le_of_ble_eq_true rfl⟩) (kp_V (q0 := 0) (ci := 10) hP hD hK hN [0, 1] rfl rfl rfl rfl rfl) rfl rfl hl.1 rfl (lv_room (Nat.le_of_ble_eq_true rfl)) dc_Mo_readFormula_177 ⟨Nat.le_of_ble_eq_true rfl, Nat.le_of_ble_eq_true rfl⟩) hP hD hS hA [0, 1] [2, 3, 4] [3, 4, 0, 1, 2] rfl rfl rfl (by decide) rfl rfl (fun H locs hP hD hS => ?_)
                                          refine va_put (ci := 10) (v := .int (kb_i (decide (pt_ws t mty q1 < pt_zz t mty q1)))) (ty := .boolean) (C := rn_Mo) (T := fd_Mo) (N := 36) hx hb hts in_Mo ty_Mo tk_Mo nm_Mo hown hK hP hD hS 0 rfl rfl 6 (by decide) (hts _ wd_752) (fun _ h9 => h9) rfl (by decide +kernel) (kb_nar _) (kb_fit _) (Nat.le_of_ble_eq_true rfl) dc_Mo_readFormula_180 (fun H locs hP hD hS => ?_)
                                          have hP : va_P D kc_l [mo_c o mth mty x0 (pt_zz t mty q1) (pt_ws t mty q1) (pt_zz t mty q1) (decide (pt_ws t mty q1 < pt_zz t mty q1)) k x1 x2 x3 mhf mhp mcl mck mba mct x4 x5 x6 x7 x8 mst x9 x10 x11 x12 mtr mrs x13 x14 x15 x16 mwr x17 mfo, ar_n cI x0 250 t, ar_n cI x1 16 rz1, ar_i cI x2 128 rl1, ar_b cZ x3 16 rd1] H := hP
                                          have hD : va_D A [mo_c o mth mty x0 (pt_zz t mty q1) (pt_ws t mty q1) (pt_zz t mty q1) (decide (pt_ws t mty q1 < pt_zz t mty q1)) k x1 x2 x3 mhf mhp mcl mck mba mct x4 x5 x6 x7 x8 mst x9 x10 x11 x12 mtr mrs x13 x14 x15 x16 mwr x17 mfo, ar_n cI x0 250 t, ar_n cI x1 16 rz1, ar_i cI x2 128 rl1, ar_b cZ x3 16 rd1] := hD
                                          refine lv_aload_n hx hb dc_Mo_readFormula_183 rfl (lv_at hl 3 rfl) ?_
                                          refine va_get (ci := 10) (v := .int (kb_i (decide (pt_ws t mty q1 < pt_zz t mty q1)))) (C := rn_Mo) (T := fd_Mo) (N := 36) hx hb hts in_Mo hown hK hP 0 rfl rfl 6 (by decide) (hts _ wd_752) (fun _ h9 => h9) rfl dc_Mo_readFormula_184 ?_
                                          refine kb_if_eq hx hb dc_Mo_readFormula_187 rfl (fun hc187 => ?_) (fun hc187 => ?_)
                                          · have hwd := of_decide_eq_false hc187
                                            have hFf : (pt_fml t mty fz fs fl).1 = false := by rw [fml_y hc31 hc51 (iv_s hpx) (iv_s hpy) hv1 hv8 hM16 rfl, ← h1, rows_bad (by omega) (by rw [show (9 : Nat) = 9 - 0 from rfl, rc_none (by decide) (pi_e hwd)])]; rfl
                                            have hP : va_P D kc_l [mo_c o mth mty x0 (pt_zz t mty q1) (pt_ws t mty q1) (pt_zz t mty q1) false k x1 x2 x3 mhf mhp mcl mck mba mct x4 x5 x6 x7 x8 mst x9 x10 x11 x12 mtr mrs x13 x14 x15 x16 mwr x17 mfo, ar_n cI x0 250 t, ar_n cI x1 16 rz1, ar_i cI x2 128 rl1, ar_b cZ x3 16 rd1] H := by rw [show (false : Bool) = decide (pt_ws t mty q1 < pt_zz t mty q1) from hc187.symm]; exact hP
                                            have hD : va_D A [mo_c o mth mty x0 (pt_zz t mty q1) (pt_ws t mty q1) (pt_zz t mty q1) false k x1 x2 x3 mhf mhp mcl mck mba mct x4 x5 x6 x7 x8 mst x9 x10 x11 x12 mtr mrs x13 x14 x15 x16 mwr x17 mfo, ar_n cI x0 250 t, ar_n cI x1 16 rz1, ar_i cI x2 128 rl1, ar_b cZ x3 16 rd1] := by rw [show (false : Bool) = decide (pt_ws t mty q1 < pt_zz t mty q1) from hc187.symm]; exact hD
                                            refine lv_iinc (k := 0) (v := nI (k + 1)) (lv' := [(3, .int (nI (k + 1))), (2, .int (nI M)), (1, .int (nI v)), (0, .ref o)]) hx hb dc_Mo_readFormula_196 hl rfl (nI_1 _) (by decide) rfl (fun ls hl => ?_)
                                            refine lv_goto hx hb dc_Mo_readFormula_199 rfl ?_
                                            have hl := lv_sub (l' := [(3, .int (nI (k + 1))), (2, .int (nI M)), (0, .ref o)]) hl [0, 1, 3] rfl
                                            exact jn_163 _ _ _ _ _ _ _ _ _ _ _ _ hP hD hS hl hFf
                                          · have hP : va_P D kc_l [mo_c o mth mty x0 (pt_zz t mty q1) (pt_ws t mty q1) (pt_zz t mty q1) true k x1 x2 x3 mhf mhp mcl mck mba mct x4 x5 x6 x7 x8 mst x9 x10 x11 x12 mtr mrs x13 x14 x15 x16 mwr x17 mfo, ar_n cI x0 250 t, ar_n cI x1 16 rz1, ar_i cI x2 128 rl1, ar_b cZ x3 16 rd1] H := by rw [show (true : Bool) = decide (pt_ws t mty q1 < pt_zz t mty q1) from hc187.symm]; exact hP
                                            have hD : va_D A [mo_c o mth mty x0 (pt_zz t mty q1) (pt_ws t mty q1) (pt_zz t mty q1) true k x1 x2 x3 mhf mhp mcl mck mba mct x4 x5 x6 x7 x8 mst x9 x10 x11 x12 mtr mrs x13 x14 x15 x16 mwr x17 mfo, ar_n cI x0 250 t, ar_n cI x1 16 rz1, ar_i cI x2 128 rl1, ar_b cZ x3 16 rd1] := by rw [show (true : Bool) = decide (pt_ws t mty q1 < pt_zz t mty q1) from hc187.symm]; exact hD
                                            refine lv_aload_n hx hb dc_Mo_readFormula_190 rfl (lv_at hl 3 rfl) ?_
                                            refine lv_iload_n hx hb dc_Mo_readFormula_191 rfl (lv_at hl 2 rfl) ?_
                                            refine lv_iconst (v := nI 0) hx hb dc_Mo_readFormula_192 (by decide +kernel) ?_
                                            refine kn_top (y := kb_i false) (by decide +kernel) ?_
                                            refine kw_callE0 (wr := []) (w1 := fun ex_1 : { e : Nat × Nat × Nat × (Nat → Nat) × (Nat → Int32) // (pt_rc t mty v (k + 1) 9 q1 (va_up fz1 (k + 1) 0) (va_up fs1 (k + 1) 0) fl1).1 = true → e.1 = (pt_rc t mty v (k + 1) 9 q1 (va_up fz1 (k + 1) 0) (va_up fs1 (k + 1) 0) fl1).2.1 ∧ pt_rel (k + 1) (pt_rc t mty v (k + 1) 9 q1 (va_up fz1 (k + 1) 0) (va_up fs1 (k + 1) 0) fl1).2.2.1 (pt_rc t mty v (k + 1) 9 q1 (va_up fz1 (k + 1) 0) (va_up fs1 (k + 1) 0) fl1).2.2.2.2 e.2.2.2.1 e.2.2.2.2 } => [mo_c o mth mty x0 ex_1.1.1 ex_1.1.2.1 ex_1.1.2.2.1 ((pt_rc t mty v (k + 1) 9 q1 (va_up fz1 (k + 1) 0) (va_up fs1 (k + 1) 0) fl1).1) (k + 1) x1 x2 x3 mhf mhp mcl mck mba mct x4 x5 x6 x7 x8 mst x9 x10 x11 x12 mtr mrs x13 x14 x15 x16 mwr x17 mfo, ar_n cI x0 250 t, ar_n cI x1 16 ex_1.1.2.2.2.1, ar_i cI x2 128 ex_1.1.2.2.2.2, ar_b cZ x3 16 (va_up rd1 k false)]) (ws' := fun ex_1 : { e : Nat × Nat × Nat × (Nat → Nat) × (Nat → Int32) // (pt_rc t mty v (k + 1) 9 q1 (va_up fz1 (k + 1) 0) (va_up fs1 (k + 1) 0) fl1).1 = true → e.1 = (pt_rc t mty v (k + 1) 9 q1 (va_up fz1 (k + 1) 0) (va_up fs1 (k + 1) 0) fl1).2.1 ∧ pt_rel (k + 1) (pt_rc t mty v (k + 1) 9 q1 (va_up fz1 (k + 1) 0) (va_up fs1 (k + 1) 0) fl1).2.2.1 (pt_rc t mty v (k + 1) 9 q1 (va_up fz1 (k + 1) 0) (va_up fs1 (k + 1) 0) fl1).2.2.2.2 e.2.2.2.1 e.2.2.2.2 } => [mo_c o mth mty x0 ex_1.1.1 ex_1.1.2.1 ex_1.1.2.2.1 ((pt_rc t mty v (k + 1) 9 q1 (va_up fz1 (k + 1) 0) (va_up fs1 (k + 1) 0) fl1).1) (k + 1) x1 x2 x3 mhf mhp mcl mck mba mct x4 x5 x6 x7 x8 mst x9 x10 x11 x12 mtr mrs x13 x14 x15 x16 mwr x17 mfo, ar_n cI x0 250 t, ar_n cI x1 16 ex_1.1.2.2.2.1, ar_i cI x2 128 ex_1.1.2.2.2.2, ar_b cZ x3 16 (va_up rd1 k false)]) (va_runV (As := [.int (nI v), .int (kb_i false)]) (rest := []) ⟨hx, hb, hml, hown, hts⟩ (ct_Mo_readClause l D cI cZ _ o mth mty x0 true k x1 x2 x3 mhf mhp mcl mck mba mct x4 x5 x6 x7 x8 mst x9 x10 x11 x12 mtr mrs x13 x14 x15 x16 mwr x17 mfo t rz1 rl1 rd1 v false q1 fz1 fs1 fl1 (rfl) (by omega) (hty) (ht) (h4) (hv8) (hr1)) (cwV 2 hts (kx_gV wd_891 wd_893 (kx_sel (q := (yn_Mo_readClause, 36)) (List.mem_append_right _ (List.mem_append_left _ (List.mem_of_getElem? (i := 0) rfl)))) wd_9 wd_894) rfl rfl rfl ⟨rfl, yd_Mo_readClause⟩ ⟨Nat.le_of_ble_eq_true rfl, Nat.le_of_ble_eq_true rfl⟩) (kp_V (q0 := 0) (ci := 10) hP hD hK hN [0, 1, 2, 3, 4] rfl rfl rfl rfl rfl) rfl rfl hl.1 rfl (lv_room (Nat.le_of_ble_eq_true rfl)) dc_Mo_readFormula_193 ⟨Nat.le_of_ble_eq_true rfl, Nat.le_of_ble_eq_true rfl⟩) hP hD hS hA [0, 1, 2, 3, 4] [] [0, 1, 2, 3, 4] rfl rfl rfl (by decide) (fun _ => rfl) rfl (fun ex_1 H locs hP hD hS => ?_)
                                            obtain ⟨⟨e1_1, e1_2, e1_3, e1_4, e1_5⟩, hex_1⟩ := ex_1
                                            dsimp only at hP hD hex_1
                                            rcases hZb : (pt_rc t mty v (k + 1) 9 q1 (va_up fz1 (k + 1) 0) (va_up fs1 (k + 1) 0) fl1).1 with _ | _
                                            · have hFf : (pt_fml t mty fz fs fl).1 = false := by rw [fml_y hc31 hc51 (iv_s hpx) (iv_s hpy) hv1 hv8 hM16 rfl, ← h1, rows_bad (by omega) hZb]; rfl
                                              rw [hZb] at hP hD
                                              refine lv_iinc (k := 0) (v := nI (k + 1)) (lv' := [(3, .int (nI (k + 1))), (2, .int (nI M)), (1, .int (nI v)), (0, .ref o)]) hx hb dc_Mo_readFormula_196 hl rfl (nI_1 _) (by decide) rfl (fun ls hl => ?_)
                                              refine lv_goto hx hb dc_Mo_readFormula_199 rfl ?_
                                              have hl := lv_sub (l' := [(3, .int (nI (k + 1))), (2, .int (nI M)), (0, .ref o)]) hl [0, 1, 3] rfl
                                              exact jn_163 _ _ _ _ _ _ _ _ _ _ _ _ hP hD hS hl hFf
                                            · obtain ⟨hat, hre⟩ := hex_1 hZb
                                              rw [hZb, hat] at hP hD
                                              refine lv_iinc (k := 0) (v := nI (k + 1)) (lv' := [(3, .int (nI (k + 1))), (2, .int (nI M)), (1, .int (nI v)), (0, .ref o)]) hx hb dc_Mo_readFormula_196 hl rfl (nI_1 _) (by decide) rfl (fun ls hl => ?_)
                                              refine lv_goto hx hb dc_Mo_readFormula_199 rfl ?_
                                              exact ih_163 _ _ _ _ _ _ _ _ _ _ _ _ _ (by omega) hP hD hS hl (by rw [← h1, rows_go (by omega) rfl hZb]) (by omega) (rc_q h4) (hre)
                                  exact lp_163 _ 0 (pt_zz t mty (pt_zz t mty (pt_zz t mty (pt_zz t mty 0)))) fz fs fl rz rl rd (pt_ws t mty (pt_zz t mty (pt_zz t mty (pt_zz t mty 0)))) (pt_zz t mty (pt_zz t mty (pt_zz t mty (pt_zz t mty 0)))) _ _ _ (Nat.lt_succ_self _) hP hD hS hl (rfl) (by omega) (zz_le (zz_le (zz_le (zz_le (Nat.zero_le _))))) (rel_0)

theorem rd_st {rd dd : Nat → Bool} {k : Nat} {d : Bool} (h : ∀ i, i < k → rd i = dd (i + 1)) : ∀ i, i < k + 1 → va_up rd k d i = va_up dd (k + 1) d (i + 1) := by
  intro i hi
  by_cases hik : i = k
  · subst hik; rw [va_up_self, va_up_self]
  · rw [va_up_ne _ _ hik, va_up_ne _ _ (by omega)]; exact h i (by omega)

set_option maxHeartbeats 4000000 in
set_option maxRecDepth 100000 in
theorem ct_Mo_readProof (l : Launch) (D : va_G) (cI cZ : ClassId) (sz : Nat) (o : Nat) (mth : Nat) (mty : Nat) (x0 : Nat) (mat : Nat) (mfr : Nat) (mto : Nat) (mgd : Bool) (mrd : Nat) (x1 : Nat) (x2 : Nat) (x3 : Nat) (mhf : Bool) (mhp : Bool) (mcl : Bool) (mck : Bool) (mba : Nat) (mct : Nat) (x4 : Nat) (x5 : Nat) (x6 : Nat) (x7 : Nat) (x8 : Nat) (mst : Nat) (x9 : Nat) (x10 : Nat) (x11 : Nat) (x12 : Nat) (mtr : Nat) (mrs : Nat) (x13 : Nat) (x14 : Nat) (x15 : Nat) (x16 : Nat) (mwr : Nat) (x17 : Nat) (mfo : Nat) (t : Nat → Nat) (rz : Nat → Nat) (rl : Nat → Int32) (rd : Nat → Bool) (fz : Nat → Nat) (fs : Nat → Nat) (fl : Nat → Int32) (dd : Nat → Bool) (hty : mty ≤ 250) (ht : ∀ j, t j < 256) : Met l yn_Mo_readProof (Cond.code yn_Mo_readProof bc_Mo_readProof 2 (some .boolean) :: kx_all) ({ frames := 3, cells := 0, slots := 0, locals := 63 } : Room) (kp [.ref o] D cI cZ [mo_c o mth mty x0 mat mfr mto mgd mrd x1 x2 x3 mhf mhp mcl mck mba mct x4 x5 x6 x7 x8 mst x9 x10 x11 x12 mtr mrs x13 x14 x15 x16 mwr x17 mfo, ar_n cI x0 250 t, ar_n cI x1 16 rz, ar_i cI x2 128 rl, ar_b cZ x3 16 rd] sz) (kw_e (some (.int (kb_i ((pt_prf t mty 16 0 0 fz fs fl dd).1)))) D kc_l (fun ex : { e : Nat × Nat × Nat × Bool × Nat × (Nat → Nat) × (Nat → Int32) × (Nat → Bool) // (pt_prf t mty 16 0 0 fz fs fl dd).1 = true → e.2.2.2.2.1 = (pt_prf t mty 16 0 0 fz fs fl dd).2.1 ∧ pt_rel (pt_prf t mty 16 0 0 fz fs fl dd).2.1 (pt_prf t mty 16 0 0 fz fs fl dd).2.2.1 (pt_prf t mty 16 0 0 fz fs fl dd).2.2.2.2.1 e.2.2.2.2.2.1 e.2.2.2.2.2.2.1 ∧ ∀ i, i < (pt_prf t mty 16 0 0 fz fs fl dd).2.1 → e.2.2.2.2.2.2.2 i = (pt_prf t mty 16 0 0 fz fs fl dd).2.2.2.2.2 (i + 1) } => [mo_c o mth mty x0 ex.1.1 ex.1.2.1 ex.1.2.2.1 ex.1.2.2.2.1 ex.1.2.2.2.2.1 x1 x2 x3 mhf mhp mcl mck mba mct x4 x5 x6 x7 x8 mst x9 x10 x11 x12 mtr mrs x13 x14 x15 x16 mwr x17 mfo, ar_n cI x0 250 t, ar_n cI x1 16 ex.1.2.2.2.2.2.1, ar_i cI x2 128 ex.1.2.2.2.2.2.2.1, ar_b cZ x3 16 ex.1.2.2.2.2.2.2.2]) (va_A [mo_c o mth mty x0 mat mfr mto mgd mrd x1 x2 x3 mhf mhp mcl mck mba mct x4 x5 x6 x7 x8 mst x9 x10 x11 x12 mtr mrs x13 x14 x15 x16 mwr x17 mfo, ar_n cI x0 250 t, ar_n cI x1 16 rz, ar_i cI x2 128 rl, ar_b cZ x3 16 rd] sz)) 0 0 (va_A [mo_c o mth mty x0 mat mfr mto mgd mrd x1 x2 x3 mhf mhp mcl mck mba mct x4 x5 x6 x7 x8 mst x9 x10 x11 x12 mtr mrs x13 x14 x15 x16 mwr x17 mfo, ar_n cI x0 250 t, ar_n cI x1 16 rz, ar_i cI x2 128 rl, ar_b cZ x3 16 rd] sz) := by
  refine kx_metE (by decide) (Nat.le_of_ble_eq_true rfl) ?_
  intro p e s m below meth c ls A hx hb hr hml hts hown hlocks hin hA hP hK hD hN hl hS
  have hown : s.vm.findClass rn_Mo = some m.cls := hown
  have hl : lv_has ls 2 [(0, .ref o)] := hl
  refine lv_aload_n hx hb dc_Mo_readProof_0 rfl (lv_at hl 0 rfl) ?_
  refine lv_iconst (v := nI 0) hx hb dc_Mo_readProof_1 (by decide +kernel) ?_
  refine va_put (ci := 10) (v := .int (nI 0)) (ty := .int) (C := rn_Mo) (T := fd_Mo) (N := 36) hx hb hts in_Mo ty_Mo tk_Mo nm_Mo hown hK hP hD hS 0 rfl rfl 3 (by decide) (hts _ wd_749) (fun _ h9 => h9) rfl (by decide +kernel) rfl rfl (Nat.le_of_ble_eq_true rfl) dc_Mo_readProof_2 (fun H locs hP hD hS => ?_)
  have hP : va_P D kc_l [mo_c o mth mty x0 0 mfr mto mgd mrd x1 x2 x3 mhf mhp mcl mck mba mct x4 x5 x6 x7 x8 mst x9 x10 x11 x12 mtr mrs x13 x14 x15 x16 mwr x17 mfo, ar_n cI x0 250 t, ar_n cI x1 16 rz, ar_i cI x2 128 rl, ar_b cZ x3 16 rd] H := hP
  have hD : va_D A [mo_c o mth mty x0 0 mfr mto mgd mrd x1 x2 x3 mhf mhp mcl mck mba mct x4 x5 x6 x7 x8 mst x9 x10 x11 x12 mtr mrs x13 x14 x15 x16 mwr x17 mfo, ar_n cI x0 250 t, ar_n cI x1 16 rz, ar_i cI x2 128 rl, ar_b cZ x3 16 rd] := hD
  refine lv_aload_n hx hb dc_Mo_readProof_5 rfl (lv_at hl 0 rfl) ?_
  refine lv_iconst (v := nI 1) hx hb dc_Mo_readProof_6 (by decide +kernel) ?_
  refine kn_top (y := kb_i true) (by decide +kernel) ?_
  refine va_put (ci := 10) (v := .int (kb_i true)) (ty := .boolean) (C := rn_Mo) (T := fd_Mo) (N := 36) hx hb hts in_Mo ty_Mo tk_Mo nm_Mo hown hK hP hD hS 0 rfl rfl 6 (by decide) (hts _ wd_752) (fun _ h9 => h9) rfl (by decide +kernel) (kb_nar _) (kb_fit _) (Nat.le_of_ble_eq_true rfl) dc_Mo_readProof_7 (fun H locs hP hD hS => ?_)
  have hP : va_P D kc_l [mo_c o mth mty x0 0 mfr mto true mrd x1 x2 x3 mhf mhp mcl mck mba mct x4 x5 x6 x7 x8 mst x9 x10 x11 x12 mtr mrs x13 x14 x15 x16 mwr x17 mfo, ar_n cI x0 250 t, ar_n cI x1 16 rz, ar_i cI x2 128 rl, ar_b cZ x3 16 rd] H := hP
  have hD : va_D A [mo_c o mth mty x0 0 mfr mto true mrd x1 x2 x3 mhf mhp mcl mck mba mct x4 x5 x6 x7 x8 mst x9 x10 x11 x12 mtr mrs x13 x14 x15 x16 mwr x17 mfo, ar_n cI x0 250 t, ar_n cI x1 16 rz, ar_i cI x2 128 rl, ar_b cZ x3 16 rd] := hD
  refine lv_aload_n hx hb dc_Mo_readProof_10 rfl (lv_at hl 0 rfl) ?_
  refine lv_iconst (v := nI 0) hx hb dc_Mo_readProof_11 (by decide +kernel) ?_
  refine va_put (ci := 10) (v := .int (nI 0)) (ty := .int) (C := rn_Mo) (T := fd_Mo) (N := 36) hx hb hts in_Mo ty_Mo tk_Mo nm_Mo hown hK hP hD hS 0 rfl rfl 7 (by decide) (hts _ wd_753) (fun _ h9 => h9) rfl (by decide +kernel) rfl rfl (Nat.le_of_ble_eq_true rfl) dc_Mo_readProof_12 (fun H locs hP hD hS => ?_)
  have hP : va_P D kc_l [mo_c o mth mty x0 0 mfr mto true 0 x1 x2 x3 mhf mhp mcl mck mba mct x4 x5 x6 x7 x8 mst x9 x10 x11 x12 mtr mrs x13 x14 x15 x16 mwr x17 mfo, ar_n cI x0 250 t, ar_n cI x1 16 rz, ar_i cI x2 128 rl, ar_b cZ x3 16 rd] H := hP
  have hD : va_D A [mo_c o mth mty x0 0 mfr mto true 0 x1 x2 x3 mhf mhp mcl mck mba mct x4 x5 x6 x7 x8 mst x9 x10 x11 x12 mtr mrs x13 x14 x15 x16 mwr x17 mfo, ar_n cI x0 250 t, ar_n cI x1 16 rz, ar_i cI x2 128 rl, ar_b cZ x3 16 rd] := hD
  have lp_15 : ∀ (K : Nat) (k : Nat) (q1 : Nat) (fz1 : Nat → Nat) (fs1 : Nat → Nat) (fl1 : Nat → Int32) (dd1 : Nat → Bool) (rz1 : Nat → Nat) (rl1 : Nat → Int32) (rd1 : Nat → Bool) (a1 : Nat) (a2 : Nat) (H : Heap) (locs : List Loc) (ls : Array Slot), 16 - k < K → va_P D kc_l [mo_c o mth mty x0 q1 a1 a2 true k x1 x2 x3 mhf mhp mcl mck mba mct x4 x5 x6 x7 x8 mst x9 x10 x11 x12 mtr mrs x13 x14 x15 x16 mwr x17 mfo, ar_n cI x0 250 t, ar_n cI x1 16 rz1, ar_i cI x2 128 rl1, ar_b cZ x3 16 rd1] H → va_D A [mo_c o mth mty x0 q1 a1 a2 true k x1 x2 x3 mhf mhp mcl mck mba mct x4 x5 x6 x7 x8 mst x9 x10 x11 x12 mtr mrs x13 x14 x15 x16 mwr x17 mfo, ar_n cI x0 250 t, ar_n cI x1 16 rz1, ar_i cI x2 128 rl1, ar_b cZ x3 16 rd1] → va_S A s.heap H locs → lv_has ls 2 [(0, .ref o)] → (pt_prf t mty (16 - k) k q1 fz1 fs1 fl1 dd1 = pt_prf t mty 16 0 0 fz fs fl dd) → (k ≤ 16) → (q1 ≤ mty) → (pt_rel k fz1 fl1 rz1 rl1) → (∀ i, i < k → rd1 i = dd1 (i + 1)) → W p l e ({ frames := 3, cells := 0, slots := 0, locals := 63 } : Room) s m ([.ref o] : List Value).toArray below meth c H locs 0 0 (MQ below (kw_e (some (.int (kb_i ((pt_prf t mty 16 0 0 fz fs fl dd).1)))) D kc_l (fun ex : { e : Nat × Nat × Nat × Bool × Nat × (Nat → Nat) × (Nat → Int32) × (Nat → Bool) // (pt_prf t mty 16 0 0 fz fs fl dd).1 = true → e.2.2.2.2.1 = (pt_prf t mty 16 0 0 fz fs fl dd).2.1 ∧ pt_rel (pt_prf t mty 16 0 0 fz fs fl dd).2.1 (pt_prf t mty 16 0 0 fz fs fl dd).2.2.1 (pt_prf t mty 16 0 0 fz fs fl dd).2.2.2.2.1 e.2.2.2.2.2.1 e.2.2.2.2.2.2.1 ∧ ∀ i, i < (pt_prf t mty 16 0 0 fz fs fl dd).2.1 → e.2.2.2.2.2.2.2 i = (pt_prf t mty 16 0 0 fz fs fl dd).2.2.2.2.2 (i + 1) } => [mo_c o mth mty x0 ex.1.1 ex.1.2.1 ex.1.2.2.1 ex.1.2.2.2.1 ex.1.2.2.2.2.1 x1 x2 x3 mhf mhp mcl mck mba mct x4 x5 x6 x7 x8 mst x9 x10 x11 x12 mtr mrs x13 x14 x15 x16 mwr x17 mfo, ar_n cI x0 250 t, ar_n cI x1 16 ex.1.2.2.2.2.2.1, ar_i cI x2 128 ex.1.2.2.2.2.2.2.1, ar_b cZ x3 16 ex.1.2.2.2.2.2.2.2]) A) ([.ref o] : List Value).toArray s 0 0 A) (F0 m 15 ls []) := by
    intro K
    induction K with
    | zero =>
      intro k q1 fz1 fs1 fl1 dd1 rz1 rl1 rd1 a1 a2 H locs ls hk
      exact absurd hk (Nat.not_lt_zero _)
    | succ K ih_15 =>
      intro k q1 fz1 fs1 fl1 dd1 rz1 rl1 rd1 a1 a2 H locs ls hk hP hD hS hl h1 h2 h4 hr1 hrd1
      refine lv_aload_n hx hb dc_Mo_readProof_15 rfl (lv_at hl 0 rfl) ?_
      refine va_get (ci := 10) (v := .int (kb_i true)) (C := rn_Mo) (T := fd_Mo) (N := 36) hx hb hts in_Mo hown hK hP 0 rfl rfl 6 (by decide) (hts _ wd_752) (fun _ h9 => h9) rfl dc_Mo_readProof_16 ?_
      refine kb_if_eq hx hb dc_Mo_readProof_19 rfl (fun hc19 => ?_) (fun hc19 => ?_)
      · exact absurd hc19 (by decide)
      · refine lv_aload_n hx hb dc_Mo_readProof_22 rfl (lv_at hl 0 rfl) ?_
        refine kw_call1 (wr := [ar_n cI x1 16 rz1, ar_i cI x2 128 rl1, ar_b cZ x3 16 rd1]) (ws' := [mo_c o mth mty x0 (pt_zz t mty q1) (pt_ws t mty q1) (pt_zz t mty q1) true k x1 x2 x3 mhf mhp mcl mck mba mct x4 x5 x6 x7 x8 mst x9 x10 x11 x12 mtr mrs x13 x14 x15 x16 mwr x17 mfo, ar_n cI x0 250 t, ar_n cI x1 16 rz1, ar_i cI x2 128 rl1, ar_b cZ x3 16 rd1]) (va_runV (As := []) (rest := []) ⟨hx, hb, hml, hown, hts⟩ (ct_Mo_word l D cI cZ _ o mth mty x0 q1 a1 a2 true k x1 x2 x3 mhf mhp mcl mck mba mct x4 x5 x6 x7 x8 mst x9 x10 x11 x12 mtr mrs x13 x14 x15 x16 mwr x17 mfo t (hty) (h4) (ht)) (cwV 0 hts (kx_gV wd_876 wd_878 (kx_sel (q := (yn_Mo_word, 36)) (List.mem_append_left _ (List.mem_of_getElem? (i := 13) rfl))) wd_9 wd_879) rfl rfl rfl ⟨rfl, yd_Mo_word⟩ ⟨Nat.le_of_ble_eq_true rfl, Nat.le_of_ble_eq_true rfl⟩) (kp_V (q0 := 0) (ci := 10) hP hD hK hN [0, 1] rfl rfl rfl rfl rfl) rfl rfl hl.1 rfl (lv_room (Nat.le_of_ble_eq_true rfl)) dc_Mo_readProof_23 ⟨Nat.le_of_ble_eq_true rfl, Nat.le_of_ble_eq_true rfl⟩) hP hD hS hA [0, 1] [2, 3, 4] [3, 4, 0, 1, 2] rfl rfl rfl (by decide) rfl rfl (fun H locs hP hD hS => ?_)
        refine kb_if_eq hx hb dc_Mo_readProof_26 rfl (fun hc26 => ?_) (fun hc26 => ?_)
        · have hFt : pt_prf t mty 16 0 0 fz fs fl dd = (true, k, fz1, fs1, fl1, dd1) := by rw [← h1, prf_en (of_decide_eq_false hc26)]
          refine lv_aload_n hx hb dc_Mo_readProof_75 rfl (lv_at hl 0 rfl) ?_
          refine va_get (ci := 10) (v := .int (kb_i true)) (C := rn_Mo) (T := fd_Mo) (N := 36) hx hb hts in_Mo hown hK hP 0 rfl rfl 6 (by decide) (hts _ wd_752) (fun _ h9 => h9) rfl dc_Mo_readProof_76 ?_
          exact ke_zret (x := ⟨(pt_zz t mty q1, pt_ws t mty q1, pt_zz t mty q1, true, k, rz1, rl1, rd1), fun _ => by rw [hFt]; exact ⟨rfl, hr1, hrd1⟩⟩) hx hb hr hlocks hP hD hS dc_Mo_readProof_79 (by rw [hFt]) (rfl)
        · have hwd := of_decide_eq_true hc26
          refine lv_aload_n hx hb dc_Mo_readProof_29 rfl (lv_at hl 0 rfl) ?_
          refine lv_bipush (v := nI 100) hx hb dc_Mo_readProof_30 (by decide +kernel) ?_
          refine lv_iconst (v := nI 0) hx hb dc_Mo_readProof_32 (by decide +kernel) ?_
          refine lv_iconst (v := nI 0) hx hb dc_Mo_readProof_33 (by decide +kernel) ?_
          refine kr_call1 (va_runV (As := [.int (nI 100), .int (nI 0), .int (nI 0)]) (rest := []) ⟨hx, hb, hml, hown, hts⟩ (ct_Mo_isWord1 l D cI cZ _ o mth mty x0 (pt_zz t mty q1) (pt_ws t mty q1) (pt_zz t mty q1) true k x1 x2 x3 mhf mhp mcl mck mba mct x4 x5 x6 x7 x8 mst x9 x10 x11 x12 mtr mrs x13 x14 x15 x16 mwr x17 mfo t 100 (ws_zz _ _ _) (Nat.le_trans (zz_le h4) hty) (ht) (by decide)) (cwV 3 hts (kx_gV wd_883 wd_885 (kx_sel (q := (yn_Mo_isWord, 36)) (List.mem_append_left _ (List.mem_of_getElem? (i := 14) rfl))) wd_9 wd_886) rfl rfl rfl ⟨rfl, yd_Mo_isWord⟩ ⟨Nat.le_of_ble_eq_true rfl, Nat.le_of_ble_eq_true rfl⟩) (kp_V (q0 := 0) (ci := 10) hP hD hK hN [0, 1] rfl rfl rfl rfl rfl) rfl rfl hl.1 rfl (lv_room (Nat.le_of_ble_eq_true rfl)) dc_Mo_readProof_34 ⟨Nat.le_of_ble_eq_true rfl, Nat.le_of_ble_eq_true rfl⟩) ?_
          refine lv_istore_n (lv' := [(1, .int (kb_i (pt_w1 t (pt_ws t mty q1) (pt_zz t mty q1) 100))), (0, .ref o)]) hx hb dc_Mo_readProof_37 rfl hl (by decide) rfl (fun ls hl => ?_)
          refine lv_aload_n hx hb dc_Mo_readProof_38 rfl (lv_at hl 1 rfl) ?_
          refine lv_iload_n hx hb dc_Mo_readProof_39 rfl (lv_at hl 0 rfl) ?_
          refine kb_if_eq hx hb dc_Mo_readProof_40 rfl (fun hc40 => ?_) (fun hc40 => ?_)
          · have hq2 : (if pt_w1 t (pt_ws t mty q1) (pt_zz t mty q1) 100 = true then pt_zz t mty q1 else q1) = q1 := if_neg (by rw [hc40]; decide)
            refine lv_iconst (v := nI 1) hx hb dc_Mo_readProof_50 (by decide +kernel) ?_
            refine lv_goto hx hb dc_Mo_readProof_51 rfl ?_
            refine kn_top (y := kb_i true) (by decide +kernel) ?_
            refine va_put (ci := 10) (v := .int (kb_i true)) (ty := .boolean) (C := rn_Mo) (T := fd_Mo) (N := 36) hx hb hts in_Mo ty_Mo tk_Mo nm_Mo hown hK hP hD hS 0 rfl rfl 6 (by decide) (hts _ wd_752) (fun _ h9 => h9) rfl (by decide +kernel) (kb_nar _) (kb_fit _) (Nat.le_of_ble_eq_true rfl) dc_Mo_readProof_55 (fun H locs hP hD hS => ?_)
            have hP : va_P D kc_l [mo_c o mth mty x0 (pt_zz t mty q1) (pt_ws t mty q1) (pt_zz t mty q1) true k x1 x2 x3 mhf mhp mcl mck mba mct x4 x5 x6 x7 x8 mst x9 x10 x11 x12 mtr mrs x13 x14 x15 x16 mwr x17 mfo, ar_n cI x0 250 t, ar_n cI x1 16 rz1, ar_i cI x2 128 rl1, ar_b cZ x3 16 rd1] H := hP
            have hD : va_D A [mo_c o mth mty x0 (pt_zz t mty q1) (pt_ws t mty q1) (pt_zz t mty q1) true k x1 x2 x3 mhf mhp mcl mck mba mct x4 x5 x6 x7 x8 mst x9 x10 x11 x12 mtr mrs x13 x14 x15 x16 mwr x17 mfo, ar_n cI x0 250 t, ar_n cI x1 16 rz1, ar_i cI x2 128 rl1, ar_b cZ x3 16 rd1] := hD
            refine lv_aload_n hx hb dc_Mo_readProof_58 rfl (lv_at hl 1 rfl) ?_
            refine va_get (ci := 10) (v := .int (kb_i true)) (C := rn_Mo) (T := fd_Mo) (N := 36) hx hb hts in_Mo hown hK hP 0 rfl rfl 6 (by decide) (hts _ wd_752) (fun _ h9 => h9) rfl dc_Mo_readProof_59 ?_
            refine kb_if_eq hx hb dc_Mo_readProof_62 rfl (fun hc62 => ?_) (fun hc62 => ?_)
            · exact absurd hc62 (by decide)
            · by_cases hk16 : k < 16
              · refine lv_aload_n hx hb dc_Mo_readProof_65 rfl (lv_at hl 1 rfl) ?_
                refine lv_bipush (v := nI 8) hx hb dc_Mo_readProof_66 (by decide +kernel) ?_
                refine lv_iload_n hx hb dc_Mo_readProof_68 rfl (lv_at hl 0 rfl) ?_
                refine kw_callE0 (wr := []) (w1 := fun ex_1 : { e : Nat × Nat × Nat × (Nat → Nat) × (Nat → Int32) // (pt_rc t mty 8 (k + 1) 9 q1 (va_up fz1 (k + 1) 0) (va_up fs1 (k + 1) 0) fl1).1 = true → e.1 = (pt_rc t mty 8 (k + 1) 9 q1 (va_up fz1 (k + 1) 0) (va_up fs1 (k + 1) 0) fl1).2.1 ∧ pt_rel (k + 1) (pt_rc t mty 8 (k + 1) 9 q1 (va_up fz1 (k + 1) 0) (va_up fs1 (k + 1) 0) fl1).2.2.1 (pt_rc t mty 8 (k + 1) 9 q1 (va_up fz1 (k + 1) 0) (va_up fs1 (k + 1) 0) fl1).2.2.2.2 e.2.2.2.1 e.2.2.2.2 } => [mo_c o mth mty x0 ex_1.1.1 ex_1.1.2.1 ex_1.1.2.2.1 ((pt_rc t mty 8 (k + 1) 9 q1 (va_up fz1 (k + 1) 0) (va_up fs1 (k + 1) 0) fl1).1) (k + 1) x1 x2 x3 mhf mhp mcl mck mba mct x4 x5 x6 x7 x8 mst x9 x10 x11 x12 mtr mrs x13 x14 x15 x16 mwr x17 mfo, ar_n cI x0 250 t, ar_n cI x1 16 ex_1.1.2.2.2.1, ar_i cI x2 128 ex_1.1.2.2.2.2, ar_b cZ x3 16 (va_up rd1 k (pt_w1 t (pt_ws t mty q1) (pt_zz t mty q1) 100))]) (ws' := fun ex_1 : { e : Nat × Nat × Nat × (Nat → Nat) × (Nat → Int32) // (pt_rc t mty 8 (k + 1) 9 q1 (va_up fz1 (k + 1) 0) (va_up fs1 (k + 1) 0) fl1).1 = true → e.1 = (pt_rc t mty 8 (k + 1) 9 q1 (va_up fz1 (k + 1) 0) (va_up fs1 (k + 1) 0) fl1).2.1 ∧ pt_rel (k + 1) (pt_rc t mty 8 (k + 1) 9 q1 (va_up fz1 (k + 1) 0) (va_up fs1 (k + 1) 0) fl1).2.2.1 (pt_rc t mty 8 (k + 1) 9 q1 (va_up fz1 (k + 1) 0) (va_up fs1 (k + 1) 0) fl1).2.2.2.2 e.2.2.2.1 e.2.2.2.2 } => [mo_c o mth mty x0 ex_1.1.1 ex_1.1.2.1 ex_1.1.2.2.1 ((pt_rc t mty 8 (k + 1) 9 q1 (va_up fz1 (k + 1) 0) (va_up fs1 (k + 1) 0) fl1).1) (k + 1) x1 x2 x3 mhf mhp mcl mck mba mct x4 x5 x6 x7 x8 mst x9 x10 x11 x12 mtr mrs x13 x14 x15 x16 mwr x17 mfo, ar_n cI x0 250 t, ar_n cI x1 16 ex_1.1.2.2.2.1, ar_i cI x2 128 ex_1.1.2.2.2.2, ar_b cZ x3 16 (va_up rd1 k (pt_w1 t (pt_ws t mty q1) (pt_zz t mty q1) 100))]) (va_runV (As := [.int (nI 8), .int (kb_i (pt_w1 t (pt_ws t mty q1) (pt_zz t mty q1) 100))]) (rest := []) ⟨hx, hb, hml, hown, hts⟩ (ct_Mo_readClause l D cI cZ _ o mth mty x0 true k x1 x2 x3 mhf mhp mcl mck mba mct x4 x5 x6 x7 x8 mst x9 x10 x11 x12 mtr mrs x13 x14 x15 x16 mwr x17 mfo t rz1 rl1 rd1 8 (pt_w1 t (pt_ws t mty q1) (pt_zz t mty q1) 100) q1 fz1 fs1 fl1 (rfl) (hk16) (hty) (ht) (h4) (by decide) (hr1)) (cwV 2 hts (kx_gV wd_891 wd_893 (kx_sel (q := (yn_Mo_readClause, 36)) (List.mem_append_right _ (List.mem_append_left _ (List.mem_of_getElem? (i := 0) rfl)))) wd_9 wd_894) rfl rfl rfl ⟨rfl, yd_Mo_readClause⟩ ⟨Nat.le_of_ble_eq_true rfl, Nat.le_of_ble_eq_true rfl⟩) (kp_V (q0 := 0) (ci := 10) hP hD hK hN [0, 1, 2, 3, 4] rfl rfl rfl rfl rfl) rfl rfl hl.1 rfl (lv_room (Nat.le_of_ble_eq_true rfl)) dc_Mo_readProof_69 ⟨Nat.le_of_ble_eq_true rfl, Nat.le_of_ble_eq_true rfl⟩) hP hD hS hA [0, 1, 2, 3, 4] [] [0, 1, 2, 3, 4] rfl rfl rfl (by decide) (fun _ => rfl) rfl (fun ex_1 H locs hP hD hS => ?_)
                obtain ⟨⟨e1_1, e1_2, e1_3, e1_4, e1_5⟩, hex_1⟩ := ex_1
                dsimp only at hP hD hex_1
                rcases hZb : (pt_rc t mty 8 (k + 1) 9 q1 (va_up fz1 (k + 1) 0) (va_up fs1 (k + 1) 0) fl1).1 with _ | _
                · have hFf : (pt_prf t mty 16 0 0 fz fs fl dd).1 = false := by rw [← h1]; exact prf_bad hwd hq2 (fun _ => hZb)
                  rw [hZb] at hP hD
                  refine lv_goto hx hb dc_Mo_readProof_72 rfl ?_
                  refine lv_aload_n hx hb dc_Mo_readProof_15 rfl (lv_at hl 1 rfl) ?_
                  refine va_get (ci := 10) (v := .int (kb_i false)) (C := rn_Mo) (T := fd_Mo) (N := 36) hx hb hts in_Mo hown hK hP 0 rfl rfl 6 (by decide) (hts _ wd_752) (fun _ h9 => h9) rfl dc_Mo_readProof_16 ?_
                  refine kb_if_eq hx hb dc_Mo_readProof_19 rfl (fun hc19 => ?_) (fun hc19 => ?_)
                  · refine lv_aload_n hx hb dc_Mo_readProof_75 rfl (lv_at hl 1 rfl) ?_
                    refine va_get (ci := 10) (v := .int (kb_i false)) (C := rn_Mo) (T := fd_Mo) (N := 36) hx hb hts in_Mo hown hK hP 0 rfl rfl 6 (by decide) (hts _ wd_752) (fun _ h9 => h9) rfl dc_Mo_readProof_76 ?_
                    exact ke_zret (x := ⟨(e1_1, e1_2, e1_3, false, k + 1, e1_4, e1_5, va_up rd1 k (pt_w1 t (pt_ws t mty q1) (pt_zz t mty q1) 100)), fun q9 => absurd q9 (by rw [hFf]; decide)⟩) hx hb hr hlocks hP hD hS dc_Mo_readProof_79 (by rw [hFf]) (rfl)
                  · exact absurd hc19 (by decide)
                · obtain ⟨hat, hre⟩ := hex_1 hZb
                  rw [hZb, hat] at hP hD
                  refine lv_goto hx hb dc_Mo_readProof_72 rfl ?_
                  have hl := lv_sub (l' := [(0, .ref o)]) hl [1] rfl
                  exact ih_15 _ _ _ _ _ _ _ _ _ _ _ _ _ _ (by omega) hP hD hS hl (by rw [← h1]; exact (prf_go hk16 hwd hq2 rfl hZb).symm) (by omega) (rc_q (h4)) (hre) (rd_st hrd1)
              · have hFf : (pt_prf t mty 16 0 0 fz fs fl dd).1 = false := by rw [← h1]; exact prf_full (by omega) hwd
                refine lv_aload_n hx hb dc_Mo_readProof_65 rfl (lv_at hl 1 rfl) ?_
                refine lv_bipush (v := nI 8) hx hb dc_Mo_readProof_66 (by decide +kernel) ?_
                refine lv_iload_n hx hb dc_Mo_readProof_68 rfl (lv_at hl 0 rfl) ?_
                refine kw_call0 (wr := [ar_n cI x0 250 t, ar_n cI x1 16 rz1, ar_i cI x2 128 rl1, ar_b cZ x3 16 rd1]) (ws' := [mo_c o mth mty x0 (pt_zz t mty q1) (pt_ws t mty q1) (pt_zz t mty q1) false (k + 1) x1 x2 x3 mhf mhp mcl mck mba mct x4 x5 x6 x7 x8 mst x9 x10 x11 x12 mtr mrs x13 x14 x15 x16 mwr x17 mfo, ar_n cI x0 250 t, ar_n cI x1 16 rz1, ar_i cI x2 128 rl1, ar_b cZ x3 16 rd1]) (va_runV (As := [.int (nI 8), .int (kb_i (pt_w1 t (pt_ws t mty q1) (pt_zz t mty q1) 100))]) (rest := []) ⟨hx, hb, hml, hown, hts⟩ (ct_Mo_readClause_full l D cI cZ _ o mth mty x0 (pt_zz t mty q1) (pt_ws t mty q1) (pt_zz t mty q1) true k x1 x2 x3 mhf mhp mcl mck mba mct x4 x5 x6 x7 x8 mst x9 x10 x11 x12 mtr mrs x13 x14 x15 x16 mwr x17 mfo 8 (pt_w1 t (pt_ws t mty q1) (pt_zz t mty q1) 100) (rfl) (by omega) (by omega)) (cwV 2 hts (kx_gV wd_891 wd_893 (kx_sel (q := (yn_Mo_readClause, 36)) (List.mem_append_right _ (List.mem_append_left _ (List.mem_of_getElem? (i := 0) rfl)))) wd_9 wd_894) rfl rfl rfl ⟨rfl, yd_Mo_readClause⟩ ⟨Nat.le_of_ble_eq_true rfl, Nat.le_of_ble_eq_true rfl⟩) (kp_V (q0 := 0) (ci := 10) hP hD hK hN [0] rfl rfl rfl rfl rfl) rfl rfl hl.1 rfl (lv_room (Nat.le_of_ble_eq_true rfl)) dc_Mo_readProof_69 ⟨Nat.le_of_ble_eq_true rfl, Nat.le_of_ble_eq_true rfl⟩) hP hD hS hA [0] [1, 2, 3, 4] [4, 0, 1, 2, 3] rfl rfl rfl (by decide) rfl rfl (fun H locs hP hD hS => ?_)
                refine lv_goto hx hb dc_Mo_readProof_72 rfl ?_
                refine lv_aload_n hx hb dc_Mo_readProof_15 rfl (lv_at hl 1 rfl) ?_
                refine va_get (ci := 10) (v := .int (kb_i false)) (C := rn_Mo) (T := fd_Mo) (N := 36) hx hb hts in_Mo hown hK hP 0 rfl rfl 6 (by decide) (hts _ wd_752) (fun _ h9 => h9) rfl dc_Mo_readProof_16 ?_
                refine kb_if_eq hx hb dc_Mo_readProof_19 rfl (fun hc19 => ?_) (fun hc19 => ?_)
                · refine lv_aload_n hx hb dc_Mo_readProof_75 rfl (lv_at hl 1 rfl) ?_
                  refine va_get (ci := 10) (v := .int (kb_i false)) (C := rn_Mo) (T := fd_Mo) (N := 36) hx hb hts in_Mo hown hK hP 0 rfl rfl 6 (by decide) (hts _ wd_752) (fun _ h9 => h9) rfl dc_Mo_readProof_76 ?_
                  exact ke_zret (x := ⟨(pt_zz t mty q1, pt_ws t mty q1, pt_zz t mty q1, false, k + 1, rz1, rl1, rd1), fun q9 => absurd q9 (by rw [hFf]; decide)⟩) hx hb hr hlocks hP hD hS dc_Mo_readProof_79 (by rw [hFf]) (rfl)
                · exact absurd hc19 (by decide)
          · have hq2 : (if pt_w1 t (pt_ws t mty q1) (pt_zz t mty q1) 100 = true then pt_zz t mty q1 else q1) = pt_zz t mty q1 := if_pos hc40
            refine lv_aload_n hx hb dc_Mo_readProof_43 rfl (lv_at hl 1 rfl) ?_
            refine kw_call1 (wr := [ar_n cI x1 16 rz1, ar_i cI x2 128 rl1, ar_b cZ x3 16 rd1]) (ws' := [mo_c o mth mty x0 (pt_zz t mty (pt_zz t mty q1)) (pt_ws t mty (pt_zz t mty q1)) (pt_zz t mty (pt_zz t mty q1)) true k x1 x2 x3 mhf mhp mcl mck mba mct x4 x5 x6 x7 x8 mst x9 x10 x11 x12 mtr mrs x13 x14 x15 x16 mwr x17 mfo, ar_n cI x0 250 t, ar_n cI x1 16 rz1, ar_i cI x2 128 rl1, ar_b cZ x3 16 rd1]) (va_runV (As := []) (rest := [.ref o]) ⟨hx, hb, hml, hown, hts⟩ (ct_Mo_word l D cI cZ _ o mth mty x0 (pt_zz t mty q1) (pt_ws t mty q1) (pt_zz t mty q1) true k x1 x2 x3 mhf mhp mcl mck mba mct x4 x5 x6 x7 x8 mst x9 x10 x11 x12 mtr mrs x13 x14 x15 x16 mwr x17 mfo t (hty) (zz_le h4) (ht)) (cwV 0 hts (kx_gV wd_876 wd_878 (kx_sel (q := (yn_Mo_word, 36)) (List.mem_append_left _ (List.mem_of_getElem? (i := 13) rfl))) wd_9 wd_879) rfl rfl rfl ⟨rfl, yd_Mo_word⟩ ⟨Nat.le_of_ble_eq_true rfl, Nat.le_of_ble_eq_true rfl⟩) (kp_V (q0 := 0) (ci := 10) hP hD hK hN [0, 1] rfl rfl rfl rfl rfl) rfl rfl hl.1 rfl (lv_room (Nat.le_of_ble_eq_true rfl)) dc_Mo_readProof_44 ⟨Nat.le_of_ble_eq_true rfl, Nat.le_of_ble_eq_true rfl⟩) hP hD hS hA [0, 1] [2, 3, 4] [3, 4, 0, 1, 2] rfl rfl rfl (by decide) rfl rfl (fun H locs hP hD hS => ?_)
            refine kb_if_eq hx hb dc_Mo_readProof_47 rfl (fun hc47 => ?_) (fun hc47 => ?_)
            · have hFf : (pt_prf t mty 16 0 0 fz fs fl dd).1 = false := by rw [← h1]; exact prf_bad hwd hq2 (fun _ => by rw [show (9 : Nat) = 9 - 0 from rfl, rc_none (by decide) (pi_e (of_decide_eq_false hc47))])
              refine lv_iconst (v := nI 0) hx hb dc_Mo_readProof_54 (by decide +kernel) ?_
              refine kn_top (y := kb_i false) (by decide +kernel) ?_
              refine va_put (ci := 10) (v := .int (kb_i false)) (ty := .boolean) (C := rn_Mo) (T := fd_Mo) (N := 36) hx hb hts in_Mo ty_Mo tk_Mo nm_Mo hown hK hP hD hS 0 rfl rfl 6 (by decide) (hts _ wd_752) (fun _ h9 => h9) rfl (by decide +kernel) (kb_nar _) (kb_fit _) (Nat.le_of_ble_eq_true rfl) dc_Mo_readProof_55 (fun H locs hP hD hS => ?_)
              have hP : va_P D kc_l [mo_c o mth mty x0 (pt_zz t mty (pt_zz t mty q1)) (pt_ws t mty (pt_zz t mty q1)) (pt_zz t mty (pt_zz t mty q1)) false k x1 x2 x3 mhf mhp mcl mck mba mct x4 x5 x6 x7 x8 mst x9 x10 x11 x12 mtr mrs x13 x14 x15 x16 mwr x17 mfo, ar_n cI x0 250 t, ar_n cI x1 16 rz1, ar_i cI x2 128 rl1, ar_b cZ x3 16 rd1] H := hP
              have hD : va_D A [mo_c o mth mty x0 (pt_zz t mty (pt_zz t mty q1)) (pt_ws t mty (pt_zz t mty q1)) (pt_zz t mty (pt_zz t mty q1)) false k x1 x2 x3 mhf mhp mcl mck mba mct x4 x5 x6 x7 x8 mst x9 x10 x11 x12 mtr mrs x13 x14 x15 x16 mwr x17 mfo, ar_n cI x0 250 t, ar_n cI x1 16 rz1, ar_i cI x2 128 rl1, ar_b cZ x3 16 rd1] := hD
              refine lv_aload_n hx hb dc_Mo_readProof_58 rfl (lv_at hl 1 rfl) ?_
              refine va_get (ci := 10) (v := .int (kb_i false)) (C := rn_Mo) (T := fd_Mo) (N := 36) hx hb hts in_Mo hown hK hP 0 rfl rfl 6 (by decide) (hts _ wd_752) (fun _ h9 => h9) rfl dc_Mo_readProof_59 ?_
              refine kb_if_eq hx hb dc_Mo_readProof_62 rfl (fun hc62 => ?_) (fun hc62 => ?_)
              · refine lv_goto hx hb dc_Mo_readProof_72 rfl ?_
                refine lv_aload_n hx hb dc_Mo_readProof_15 rfl (lv_at hl 1 rfl) ?_
                refine va_get (ci := 10) (v := .int (kb_i false)) (C := rn_Mo) (T := fd_Mo) (N := 36) hx hb hts in_Mo hown hK hP 0 rfl rfl 6 (by decide) (hts _ wd_752) (fun _ h9 => h9) rfl dc_Mo_readProof_16 ?_
                refine kb_if_eq hx hb dc_Mo_readProof_19 rfl (fun hc19 => ?_) (fun hc19 => ?_)
                · refine lv_aload_n hx hb dc_Mo_readProof_75 rfl (lv_at hl 1 rfl) ?_
                  refine va_get (ci := 10) (v := .int (kb_i false)) (C := rn_Mo) (T := fd_Mo) (N := 36) hx hb hts in_Mo hown hK hP 0 rfl rfl 6 (by decide) (hts _ wd_752) (fun _ h9 => h9) rfl dc_Mo_readProof_76 ?_
                  exact ke_zret (x := ⟨(pt_zz t mty (pt_zz t mty q1), pt_ws t mty (pt_zz t mty q1), pt_zz t mty (pt_zz t mty q1), false, k, rz1, rl1, rd1), fun q9 => absurd q9 (by rw [hFf]; decide)⟩) hx hb hr hlocks hP hD hS dc_Mo_readProof_79 (by rw [hFf]) (rfl)
                · exact absurd hc19 (by decide)
              · exact absurd hc62 (by decide)
            · refine lv_iconst (v := nI 1) hx hb dc_Mo_readProof_50 (by decide +kernel) ?_
              refine lv_goto hx hb dc_Mo_readProof_51 rfl ?_
              refine kn_top (y := kb_i true) (by decide +kernel) ?_
              refine va_put (ci := 10) (v := .int (kb_i true)) (ty := .boolean) (C := rn_Mo) (T := fd_Mo) (N := 36) hx hb hts in_Mo ty_Mo tk_Mo nm_Mo hown hK hP hD hS 0 rfl rfl 6 (by decide) (hts _ wd_752) (fun _ h9 => h9) rfl (by decide +kernel) (kb_nar _) (kb_fit _) (Nat.le_of_ble_eq_true rfl) dc_Mo_readProof_55 (fun H locs hP hD hS => ?_)
              have hP : va_P D kc_l [mo_c o mth mty x0 (pt_zz t mty (pt_zz t mty q1)) (pt_ws t mty (pt_zz t mty q1)) (pt_zz t mty (pt_zz t mty q1)) true k x1 x2 x3 mhf mhp mcl mck mba mct x4 x5 x6 x7 x8 mst x9 x10 x11 x12 mtr mrs x13 x14 x15 x16 mwr x17 mfo, ar_n cI x0 250 t, ar_n cI x1 16 rz1, ar_i cI x2 128 rl1, ar_b cZ x3 16 rd1] H := hP
              have hD : va_D A [mo_c o mth mty x0 (pt_zz t mty (pt_zz t mty q1)) (pt_ws t mty (pt_zz t mty q1)) (pt_zz t mty (pt_zz t mty q1)) true k x1 x2 x3 mhf mhp mcl mck mba mct x4 x5 x6 x7 x8 mst x9 x10 x11 x12 mtr mrs x13 x14 x15 x16 mwr x17 mfo, ar_n cI x0 250 t, ar_n cI x1 16 rz1, ar_i cI x2 128 rl1, ar_b cZ x3 16 rd1] := hD
              refine lv_aload_n hx hb dc_Mo_readProof_58 rfl (lv_at hl 1 rfl) ?_
              refine va_get (ci := 10) (v := .int (kb_i true)) (C := rn_Mo) (T := fd_Mo) (N := 36) hx hb hts in_Mo hown hK hP 0 rfl rfl 6 (by decide) (hts _ wd_752) (fun _ h9 => h9) rfl dc_Mo_readProof_59 ?_
              refine kb_if_eq hx hb dc_Mo_readProof_62 rfl (fun hc62 => ?_) (fun hc62 => ?_)
              · exact absurd hc62 (by decide)
              · by_cases hk16 : k < 16
                · refine lv_aload_n hx hb dc_Mo_readProof_65 rfl (lv_at hl 1 rfl) ?_
                  refine lv_bipush (v := nI 8) hx hb dc_Mo_readProof_66 (by decide +kernel) ?_
                  refine lv_iload_n hx hb dc_Mo_readProof_68 rfl (lv_at hl 0 rfl) ?_
                  refine kw_callE0 (wr := []) (w1 := fun ex_2 : { e : Nat × Nat × Nat × (Nat → Nat) × (Nat → Int32) // (pt_rc t mty 8 (k + 1) 9 (pt_zz t mty q1) (va_up fz1 (k + 1) 0) (va_up fs1 (k + 1) 0) fl1).1 = true → e.1 = (pt_rc t mty 8 (k + 1) 9 (pt_zz t mty q1) (va_up fz1 (k + 1) 0) (va_up fs1 (k + 1) 0) fl1).2.1 ∧ pt_rel (k + 1) (pt_rc t mty 8 (k + 1) 9 (pt_zz t mty q1) (va_up fz1 (k + 1) 0) (va_up fs1 (k + 1) 0) fl1).2.2.1 (pt_rc t mty 8 (k + 1) 9 (pt_zz t mty q1) (va_up fz1 (k + 1) 0) (va_up fs1 (k + 1) 0) fl1).2.2.2.2 e.2.2.2.1 e.2.2.2.2 } => [mo_c o mth mty x0 ex_2.1.1 ex_2.1.2.1 ex_2.1.2.2.1 ((pt_rc t mty 8 (k + 1) 9 (pt_zz t mty q1) (va_up fz1 (k + 1) 0) (va_up fs1 (k + 1) 0) fl1).1) (k + 1) x1 x2 x3 mhf mhp mcl mck mba mct x4 x5 x6 x7 x8 mst x9 x10 x11 x12 mtr mrs x13 x14 x15 x16 mwr x17 mfo, ar_n cI x0 250 t, ar_n cI x1 16 ex_2.1.2.2.2.1, ar_i cI x2 128 ex_2.1.2.2.2.2, ar_b cZ x3 16 (va_up rd1 k (pt_w1 t (pt_ws t mty q1) (pt_zz t mty q1) 100))]) (ws' := fun ex_2 : { e : Nat × Nat × Nat × (Nat → Nat) × (Nat → Int32) // (pt_rc t mty 8 (k + 1) 9 (pt_zz t mty q1) (va_up fz1 (k + 1) 0) (va_up fs1 (k + 1) 0) fl1).1 = true → e.1 = (pt_rc t mty 8 (k + 1) 9 (pt_zz t mty q1) (va_up fz1 (k + 1) 0) (va_up fs1 (k + 1) 0) fl1).2.1 ∧ pt_rel (k + 1) (pt_rc t mty 8 (k + 1) 9 (pt_zz t mty q1) (va_up fz1 (k + 1) 0) (va_up fs1 (k + 1) 0) fl1).2.2.1 (pt_rc t mty 8 (k + 1) 9 (pt_zz t mty q1) (va_up fz1 (k + 1) 0) (va_up fs1 (k + 1) 0) fl1).2.2.2.2 e.2.2.2.1 e.2.2.2.2 } => [mo_c o mth mty x0 ex_2.1.1 ex_2.1.2.1 ex_2.1.2.2.1 ((pt_rc t mty 8 (k + 1) 9 (pt_zz t mty q1) (va_up fz1 (k + 1) 0) (va_up fs1 (k + 1) 0) fl1).1) (k + 1) x1 x2 x3 mhf mhp mcl mck mba mct x4 x5 x6 x7 x8 mst x9 x10 x11 x12 mtr mrs x13 x14 x15 x16 mwr x17 mfo, ar_n cI x0 250 t, ar_n cI x1 16 ex_2.1.2.2.2.1, ar_i cI x2 128 ex_2.1.2.2.2.2, ar_b cZ x3 16 (va_up rd1 k (pt_w1 t (pt_ws t mty q1) (pt_zz t mty q1) 100))]) (va_runV (As := [.int (nI 8), .int (kb_i (pt_w1 t (pt_ws t mty q1) (pt_zz t mty q1) 100))]) (rest := []) ⟨hx, hb, hml, hown, hts⟩ (ct_Mo_readClause l D cI cZ _ o mth mty x0 true k x1 x2 x3 mhf mhp mcl mck mba mct x4 x5 x6 x7 x8 mst x9 x10 x11 x12 mtr mrs x13 x14 x15 x16 mwr x17 mfo t rz1 rl1 rd1 8 (pt_w1 t (pt_ws t mty q1) (pt_zz t mty q1) 100) (pt_zz t mty q1) fz1 fs1 fl1 (rfl) (hk16) (hty) (ht) (zz_le h4) (by decide) (hr1)) (cwV 2 hts (kx_gV wd_891 wd_893 (kx_sel (q := (yn_Mo_readClause, 36)) (List.mem_append_right _ (List.mem_append_left _ (List.mem_of_getElem? (i := 0) rfl)))) wd_9 wd_894) rfl rfl rfl ⟨rfl, yd_Mo_readClause⟩ ⟨Nat.le_of_ble_eq_true rfl, Nat.le_of_ble_eq_true rfl⟩) (kp_V (q0 := 0) (ci := 10) hP hD hK hN [0, 1, 2, 3, 4] rfl rfl rfl rfl rfl) rfl rfl hl.1 rfl (lv_room (Nat.le_of_ble_eq_true rfl)) dc_Mo_readProof_69 ⟨Nat.le_of_ble_eq_true rfl, Nat.le_of_ble_eq_true rfl⟩) hP hD hS hA [0, 1, 2, 3, 4] [] [0, 1, 2, 3, 4] rfl rfl rfl (by decide) (fun _ => rfl) rfl (fun ex_2 H locs hP hD hS => ?_)
                  obtain ⟨⟨e2_1, e2_2, e2_3, e2_4, e2_5⟩, hex_2⟩ := ex_2
                  dsimp only at hP hD hex_2
                  rcases hZb : (pt_rc t mty 8 (k + 1) 9 (pt_zz t mty q1) (va_up fz1 (k + 1) 0) (va_up fs1 (k + 1) 0) fl1).1 with _ | _
                  · have hFf : (pt_prf t mty 16 0 0 fz fs fl dd).1 = false := by rw [← h1]; exact prf_bad hwd hq2 (fun _ => hZb)
                    rw [hZb] at hP hD
                    refine lv_goto hx hb dc_Mo_readProof_72 rfl ?_
                    refine lv_aload_n hx hb dc_Mo_readProof_15 rfl (lv_at hl 1 rfl) ?_
                    refine va_get (ci := 10) (v := .int (kb_i false)) (C := rn_Mo) (T := fd_Mo) (N := 36) hx hb hts in_Mo hown hK hP 0 rfl rfl 6 (by decide) (hts _ wd_752) (fun _ h9 => h9) rfl dc_Mo_readProof_16 ?_
                    refine kb_if_eq hx hb dc_Mo_readProof_19 rfl (fun hc19 => ?_) (fun hc19 => ?_)
                    · refine lv_aload_n hx hb dc_Mo_readProof_75 rfl (lv_at hl 1 rfl) ?_
                      refine va_get (ci := 10) (v := .int (kb_i false)) (C := rn_Mo) (T := fd_Mo) (N := 36) hx hb hts in_Mo hown hK hP 0 rfl rfl 6 (by decide) (hts _ wd_752) (fun _ h9 => h9) rfl dc_Mo_readProof_76 ?_
                      exact ke_zret (x := ⟨(e2_1, e2_2, e2_3, false, k + 1, e2_4, e2_5, va_up rd1 k (pt_w1 t (pt_ws t mty q1) (pt_zz t mty q1) 100)), fun q9 => absurd q9 (by rw [hFf]; decide)⟩) hx hb hr hlocks hP hD hS dc_Mo_readProof_79 (by rw [hFf]) (rfl)
                    · exact absurd hc19 (by decide)
                  · obtain ⟨hat, hre⟩ := hex_2 hZb
                    rw [hZb, hat] at hP hD
                    refine lv_goto hx hb dc_Mo_readProof_72 rfl ?_
                    have hl := lv_sub (l' := [(0, .ref o)]) hl [1] rfl
                    exact ih_15 _ _ _ _ _ _ _ _ _ _ _ _ _ _ (by omega) hP hD hS hl (by rw [← h1]; exact (prf_go hk16 hwd hq2 rfl hZb).symm) (by omega) (rc_q (zz_le h4)) (hre) (rd_st hrd1)
                · have hFf : (pt_prf t mty 16 0 0 fz fs fl dd).1 = false := by rw [← h1]; exact prf_full (by omega) hwd
                  refine lv_aload_n hx hb dc_Mo_readProof_65 rfl (lv_at hl 1 rfl) ?_
                  refine lv_bipush (v := nI 8) hx hb dc_Mo_readProof_66 (by decide +kernel) ?_
                  refine lv_iload_n hx hb dc_Mo_readProof_68 rfl (lv_at hl 0 rfl) ?_
                  refine kw_call0 (wr := [ar_n cI x0 250 t, ar_n cI x1 16 rz1, ar_i cI x2 128 rl1, ar_b cZ x3 16 rd1]) (ws' := [mo_c o mth mty x0 (pt_zz t mty (pt_zz t mty q1)) (pt_ws t mty (pt_zz t mty q1)) (pt_zz t mty (pt_zz t mty q1)) false (k + 1) x1 x2 x3 mhf mhp mcl mck mba mct x4 x5 x6 x7 x8 mst x9 x10 x11 x12 mtr mrs x13 x14 x15 x16 mwr x17 mfo, ar_n cI x0 250 t, ar_n cI x1 16 rz1, ar_i cI x2 128 rl1, ar_b cZ x3 16 rd1]) (va_runV (As := [.int (nI 8), .int (kb_i (pt_w1 t (pt_ws t mty q1) (pt_zz t mty q1) 100))]) (rest := []) ⟨hx, hb, hml, hown, hts⟩ (ct_Mo_readClause_full l D cI cZ _ o mth mty x0 (pt_zz t mty (pt_zz t mty q1)) (pt_ws t mty (pt_zz t mty q1)) (pt_zz t mty (pt_zz t mty q1)) true k x1 x2 x3 mhf mhp mcl mck mba mct x4 x5 x6 x7 x8 mst x9 x10 x11 x12 mtr mrs x13 x14 x15 x16 mwr x17 mfo 8 (pt_w1 t (pt_ws t mty q1) (pt_zz t mty q1) 100) (rfl) (by omega) (by omega)) (cwV 2 hts (kx_gV wd_891 wd_893 (kx_sel (q := (yn_Mo_readClause, 36)) (List.mem_append_right _ (List.mem_append_left _ (List.mem_of_getElem? (i := 0) rfl)))) wd_9 wd_894) rfl rfl rfl ⟨rfl, yd_Mo_readClause⟩ ⟨Nat.le_of_ble_eq_true rfl, Nat.le_of_ble_eq_true rfl⟩) (kp_V (q0 := 0) (ci := 10) hP hD hK hN [0] rfl rfl rfl rfl rfl) rfl rfl hl.1 rfl (lv_room (Nat.le_of_ble_eq_true rfl)) dc_Mo_readProof_69 ⟨Nat.le_of_ble_eq_true rfl, Nat.le_of_ble_eq_true rfl⟩) hP hD hS hA [0] [1, 2, 3, 4] [4, 0, 1, 2, 3] rfl rfl rfl (by decide) rfl rfl (fun H locs hP hD hS => ?_)
                  refine lv_goto hx hb dc_Mo_readProof_72 rfl ?_
                  refine lv_aload_n hx hb dc_Mo_readProof_15 rfl (lv_at hl 1 rfl) ?_
                  refine va_get (ci := 10) (v := .int (kb_i false)) (C := rn_Mo) (T := fd_Mo) (N := 36) hx hb hts in_Mo hown hK hP 0 rfl rfl 6 (by decide) (hts _ wd_752) (fun _ h9 => h9) rfl dc_Mo_readProof_16 ?_
                  refine kb_if_eq hx hb dc_Mo_readProof_19 rfl (fun hc19 => ?_) (fun hc19 => ?_)
                  · refine lv_aload_n hx hb dc_Mo_readProof_75 rfl (lv_at hl 1 rfl) ?_
                    refine va_get (ci := 10) (v := .int (kb_i false)) (C := rn_Mo) (T := fd_Mo) (N := 36) hx hb hts in_Mo hown hK hP 0 rfl rfl 6 (by decide) (hts _ wd_752) (fun _ h9 => h9) rfl dc_Mo_readProof_76 ?_
                    exact ke_zret (x := ⟨(pt_zz t mty (pt_zz t mty q1), pt_ws t mty (pt_zz t mty q1), pt_zz t mty (pt_zz t mty q1), false, k + 1, rz1, rl1, rd1), fun q9 => absurd q9 (by rw [hFf]; decide)⟩) hx hb hr hlocks hP hD hS dc_Mo_readProof_79 (by rw [hFf]) (rfl)
                  · exact absurd hc19 (by decide)
  exact lp_15 _ 0 0 fz fs fl dd rz rl rd mfr mto _ _ _ (Nat.lt_succ_self _) hP hD hS hl (rfl) (by omega) (Nat.zero_le _) (rel_0) (fun i hi => absurd hi (Nat.not_lt_zero i))
