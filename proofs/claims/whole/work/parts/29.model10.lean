/-! the reference: words and literals -/
theorem pi_n {t : Nat → Nat} {a b : Nat} (h : a < b ∧ t a = 45) : pt_int t a b = if b ≤ a + 1 ∨ 3 < b - a ∨ t (a + 1) = 48 then none else (pt_dg t (b - (a + 1)) (a + 1) 0).map (fun v => -(nI v)) := by
  unfold pt_int
  rw [if_pos h]
theorem pi_p {t : Nat → Nat} {a b : Nat} (h : ¬ (a < b ∧ t a = 45)) : pt_int t a b = if b ≤ a ∨ 3 < b - a ∨ (t a = 48 ∧ 1 < b - a) then none else (pt_dg t (b - a) a 0).map (fun v => nI v) := by
  unfold pt_int
  rw [if_neg h]
def pt_w1 (t : Nat → Nat) (a b x : Nat) : Bool := decide (b - a = 1 ∧ t a = x)
def pt_w3 (t : Nat → Nat) (a b x y z : Nat) : Bool := decide (b - a = 3 ∧ t a = x ∧ t (a + 1) = y ∧ t (a + 2) = z)
theorem lit_ap : ∀ b, b < 8 → pt_lit b = nI (b % 8 + 1) := by decide +kernel
theorem lit_an : ∀ b, b < 16 → 8 ≤ b → -pt_lit b = nI (b % 8 + 1) := by decide +kernel
theorem lit_nn : ∀ b, b < 16 → 8 ≤ b → ¬ 0 ≤ pt_lit b := by decide +kernel
theorem lit_pp : ∀ b, b < 8 → 0 ≤ pt_lit b := by decide +kernel
theorem lit_same : ∀ a, a < 16 → ∀ b, b < 16 → (pt_lit a = pt_lit b ∨ pt_lit a = -pt_lit b) → a % 8 = b % 8 := by decide +kernel
theorem lit_diff : ∀ a, a < 16 → ∀ b, b < 16 → a % 8 = b % 8 → pt_lit a = pt_lit b ∨ pt_lit a = -pt_lit b := by decide +kernel
theorem row_bits {gl : Nat → Int32} {a w : Nat} {bb pm : Nat → Nat} {z : Nat} (h : pt_row gl a w bb pm z) : ∀ k, k ≤ w → ∀ i, (pm k).testBit i = true ↔ ∃ j, j < k ∧ bb j = i := by
  obtain ⟨h8, h0, he, hl⟩ := h
  intro k
  induction k with
  | zero =>
    intro _ i
    rw [h0, Nat.zero_testBit]
    exact ⟨fun q => absurd q (by decide), fun ⟨j, hj, _⟩ => absurd hj (Nat.not_lt_zero j)⟩
  | succ k ih =>
    intro hk i
    rw [(hl k (by omega)).2.2.2.1, Nat.testBit_or, Bool.or_eq_true, ih (by omega) i, Nat.testBit_two_pow, decide_eq_true_eq]
    constructor
    · rintro (⟨j, hj, e⟩ | e)
      · exact ⟨j, by omega, e⟩
      · exact ⟨k, by omega, e⟩
    · rintro ⟨j, hj, e⟩
      by_cases hjk : j = k
      · subst hjk; exact Or.inr e
      · exact Or.inl ⟨j, by omega, e⟩
theorem row_dup {gl : Nat → Int32} {a w : Nat} {bb pm : Nat → Nat} {z b : Nat} (h : pt_row gl a w bb pm z) (hf : z &&& (2 ^ (b % 8) ||| 2 ^ (b % 8 + 8)) = 0) (k : Nat) (hk : k < w) : ¬ bb k % 8 = b % 8 := by
  intro q
  have h1 := (row_bits h w (Nat.le_refl w) (bb k)).mpr ⟨k, hk, rfl⟩
  rw [h.2.2.1] at h1
  have h2 : (z &&& (2 ^ (b % 8) ||| 2 ^ (b % 8 + 8))).testBit (bb k) = false := by rw [hf]; exact Nat.zero_testBit _
  have h16 := (h.2.2.2 k hk).1
  rw [Nat.testBit_and, h1, Bool.true_and, Nat.testBit_or, Nat.testBit_two_pow, Nat.testBit_two_pow, Bool.or_eq_false_iff] at h2
  have h3 := of_decide_eq_false h2.1
  have h4 := of_decide_eq_false h2.2
  omega
theorem row_free {gl : Nat → Int32} {a w : Nat} {bb pm : Nat → Nat} {z b : Nat} (h : pt_row gl a w bb pm z) (hf : ∀ k, k < w → ¬ bb k % 8 = b % 8) : z &&& (2 ^ (b % 8) ||| 2 ^ (b % 8 + 8)) = 0 := by
  apply Nat.eq_of_testBit_eq
  intro i
  rw [Nat.zero_testBit, Nat.testBit_and, Nat.testBit_or, Nat.testBit_two_pow, Nat.testBit_two_pow]
  cases hz : z.testBit i with
  | false => rfl
  | true =>
    rw [← h.2.2.1] at hz
    obtain ⟨k, hk, e⟩ := (row_bits h w (Nat.le_refl w) i).mp hz
    have h1 := hf k hk
    rw [decide_eq_false (by omega), decide_eq_false (by omega)]
    rfl
/-- a literal more -/
theorem row_app {gl : Nat → Int32} {a w : Nat} {bb pm : Nat → Nat} {z b : Nat} (h : pt_row gl a w bb pm z) (hb : b < 16) (hf : z &&& (2 ^ (b % 8) ||| 2 ^ (b % 8 + 8)) = 0) (hw : w < 8) (hz : z < 65536) : pt_row (upd gl (a + w) (pt_lit b)) a (w + 1) (va_up bb w b) (va_up pm (w + 1) (z ||| 2 ^ b)) (z ||| 2 ^ b) := by
  obtain ⟨h8, h0, he, hl⟩ := h
  refine ⟨by omega, by rw [va_up_ne _ _ (by omega)]; exact h0, va_up_self _ _ _, ?_⟩
  intro k hk
  by_cases hkw : k = w
  · subst hkw
    rw [va_up_self, va_up_self, va_up_ne pm _ (by omega), he]
    exact ⟨hb, by unfold upd; rw [if_pos rfl], hf, rfl, hz⟩
  · rw [va_up_ne bb _ hkw, va_up_ne pm _ (by omega), va_up_ne pm _ (by omega)]
    obtain ⟨a1, a2, a3, a4, a5⟩ := hl k (by omega)
    exact ⟨a1, by unfold upd; rw [if_neg (by omega)]; exact a2, a3, a4, a5⟩
theorem row_e {gl : Nat → Int32} {a : Nat} : pt_row gl a 0 (fun _ => 0) (fun _ => 0) 0 := ⟨by decide, rfl, rfl, fun k hk => absurd hk (Nat.not_lt_zero k)⟩
theorem row_same {gl gl' : Nat → Int32} {a w : Nat} {bb pm : Nat → Nat} {z : Nat} (h : pt_row gl a w bb pm z) {a' : Nat} (hs : ∀ k, k < w → gl' (a' + k) = gl (a + k)) : pt_row gl' a' w bb pm z := by
  obtain ⟨h8, h0, he, hl⟩ := h
  exact ⟨h8, h0, he, fun k hk => ⟨(hl k hk).1, by rw [hs k hk]; exact (hl k hk).2.1, (hl k hk).2.2⟩⟩
theorem neg_z (x : Int32) : -x = 0 - x := by rw [Int32.zero_sub]

theorem dc_Mo_integer_0 : decode bc_Mo_integer 0 = .ok (.aload_n 0, 1) := by decide +kernel
theorem dc_Mo_integer_1 : decode bc_Mo_integer 1 = .ok (.getfield 84, 3) := by decide +kernel
theorem dc_Mo_integer_4 : decode bc_Mo_integer 4 = .ok (.aload_n 0, 1) := by decide +kernel
theorem dc_Mo_integer_5 : decode bc_Mo_integer 5 = .ok (.getfield 81, 3) := by decide +kernel
theorem dc_Mo_integer_8 : decode bc_Mo_integer 8 = .ok (.if_icmp .le (21), 3) := by decide +kernel
theorem dc_Mo_integer_11 : decode bc_Mo_integer 11 = .ok (.aload_n 0, 1) := by decide +kernel
theorem dc_Mo_integer_12 : decode bc_Mo_integer 12 = .ok (.getfield 7, 3) := by decide +kernel
theorem dc_Mo_integer_15 : decode bc_Mo_integer 15 = .ok (.aload_n 0, 1) := by decide +kernel
theorem dc_Mo_integer_16 : decode bc_Mo_integer 16 = .ok (.getfield 81, 3) := by decide +kernel
theorem dc_Mo_integer_19 : decode bc_Mo_integer 19 = .ok (.iaload, 1) := by decide +kernel
theorem dc_Mo_integer_20 : decode bc_Mo_integer 20 = .ok (.bipush (45), 2) := by decide +kernel
theorem dc_Mo_integer_22 : decode bc_Mo_integer 22 = .ok (.if_icmp .ne (7), 3) := by decide +kernel
theorem dc_Mo_integer_25 : decode bc_Mo_integer 25 = .ok (.iconst 1, 1) := by decide +kernel
theorem dc_Mo_integer_26 : decode bc_Mo_integer 26 = .ok (.goto (4), 3) := by decide +kernel
theorem dc_Mo_integer_29 : decode bc_Mo_integer 29 = .ok (.iconst 0, 1) := by decide +kernel
theorem dc_Mo_integer_30 : decode bc_Mo_integer 30 = .ok (.istore_n 1, 1) := by decide +kernel
theorem dc_Mo_integer_31 : decode bc_Mo_integer 31 = .ok (.iload_n 1, 1) := by decide +kernel
theorem dc_Mo_integer_32 : decode bc_Mo_integer 32 = .ok (.ifCond .eq (12), 3) := by decide +kernel
theorem dc_Mo_integer_35 : decode bc_Mo_integer 35 = .ok (.aload_n 0, 1) := by decide +kernel
theorem dc_Mo_integer_36 : decode bc_Mo_integer 36 = .ok (.getfield 81, 3) := by decide +kernel
theorem dc_Mo_integer_39 : decode bc_Mo_integer 39 = .ok (.iconst 1, 1) := by decide +kernel
theorem dc_Mo_integer_40 : decode bc_Mo_integer 40 = .ok (.iadd, 1) := by decide +kernel
theorem dc_Mo_integer_41 : decode bc_Mo_integer 41 = .ok (.goto (7), 3) := by decide +kernel
theorem dc_Mo_integer_44 : decode bc_Mo_integer 44 = .ok (.aload_n 0, 1) := by decide +kernel
theorem dc_Mo_integer_45 : decode bc_Mo_integer 45 = .ok (.getfield 81, 3) := by decide +kernel
theorem dc_Mo_integer_48 : decode bc_Mo_integer 48 = .ok (.istore_n 2, 1) := by decide +kernel
theorem dc_Mo_integer_49 : decode bc_Mo_integer 49 = .ok (.iconst 0, 1) := by decide +kernel
theorem dc_Mo_integer_50 : decode bc_Mo_integer 50 = .ok (.istore_n 3, 1) := by decide +kernel
theorem dc_Mo_integer_51 : decode bc_Mo_integer 51 = .ok (.aload_n 0, 1) := by decide +kernel
theorem dc_Mo_integer_52 : decode bc_Mo_integer 52 = .ok (.aload_n 0, 1) := by decide +kernel
theorem dc_Mo_integer_53 : decode bc_Mo_integer 53 = .ok (.getfield 87, 3) := by decide +kernel
theorem dc_Mo_integer_56 : decode bc_Mo_integer 56 = .ok (.ifCond .eq (28), 3) := by decide +kernel
theorem dc_Mo_integer_59 : decode bc_Mo_integer 59 = .ok (.aload_n 0, 1) := by decide +kernel
theorem dc_Mo_integer_60 : decode bc_Mo_integer 60 = .ok (.getfield 84, 3) := by decide +kernel
theorem dc_Mo_integer_63 : decode bc_Mo_integer 63 = .ok (.iload_n 2, 1) := by decide +kernel
theorem dc_Mo_integer_64 : decode bc_Mo_integer 64 = .ok (.if_icmp .le (20), 3) := by decide +kernel
theorem dc_Mo_integer_67 : decode bc_Mo_integer 67 = .ok (.aload_n 0, 1) := by decide +kernel
theorem dc_Mo_integer_68 : decode bc_Mo_integer 68 = .ok (.getfield 84, 3) := by decide +kernel
theorem dc_Mo_integer_71 : decode bc_Mo_integer 71 = .ok (.aload_n 0, 1) := by decide +kernel
theorem dc_Mo_integer_72 : decode bc_Mo_integer 72 = .ok (.getfield 81, 3) := by decide +kernel
theorem dc_Mo_integer_75 : decode bc_Mo_integer 75 = .ok (.isub, 1) := by decide +kernel
theorem dc_Mo_integer_76 : decode bc_Mo_integer 76 = .ok (.iconst 3, 1) := by decide +kernel
theorem dc_Mo_integer_77 : decode bc_Mo_integer 77 = .ok (.if_icmp .gt (7), 3) := by decide +kernel
theorem dc_Mo_integer_80 : decode bc_Mo_integer 80 = .ok (.iconst 1, 1) := by decide +kernel
theorem dc_Mo_integer_81 : decode bc_Mo_integer 81 = .ok (.goto (4), 3) := by decide +kernel
theorem dc_Mo_integer_84 : decode bc_Mo_integer 84 = .ok (.iconst 0, 1) := by decide +kernel
theorem dc_Mo_integer_85 : decode bc_Mo_integer 85 = .ok (.putfield 87, 3) := by decide +kernel
theorem dc_Mo_integer_88 : decode bc_Mo_integer 88 = .ok (.iload_n 2, 1) := by decide +kernel
theorem dc_Mo_integer_89 : decode bc_Mo_integer 89 = .ok (.istore 4, 2) := by decide +kernel
theorem dc_Mo_integer_91 : decode bc_Mo_integer 91 = .ok (.iload 4, 2) := by decide +kernel
theorem dc_Mo_integer_93 : decode bc_Mo_integer 93 = .ok (.aload_n 0, 1) := by decide +kernel
theorem dc_Mo_integer_94 : decode bc_Mo_integer 94 = .ok (.getfield 84, 3) := by decide +kernel
theorem dc_Mo_integer_97 : decode bc_Mo_integer 97 = .ok (.if_icmp .ge (65), 3) := by decide +kernel
theorem dc_Mo_integer_100 : decode bc_Mo_integer 100 = .ok (.aload_n 0, 1) := by decide +kernel
theorem dc_Mo_integer_101 : decode bc_Mo_integer 101 = .ok (.getfield 87, 3) := by decide +kernel
theorem dc_Mo_integer_104 : decode bc_Mo_integer 104 = .ok (.ifCond .eq (58), 3) := by decide +kernel
theorem dc_Mo_integer_107 : decode bc_Mo_integer 107 = .ok (.aload_n 0, 1) := by decide +kernel
theorem dc_Mo_integer_108 : decode bc_Mo_integer 108 = .ok (.aload_n 0, 1) := by decide +kernel
theorem dc_Mo_integer_109 : decode bc_Mo_integer 109 = .ok (.getfield 7, 3) := by decide +kernel
theorem dc_Mo_integer_112 : decode bc_Mo_integer 112 = .ok (.iload 4, 2) := by decide +kernel
theorem dc_Mo_integer_114 : decode bc_Mo_integer 114 = .ok (.iaload, 1) := by decide +kernel
theorem dc_Mo_integer_115 : decode bc_Mo_integer 115 = .ok (.bipush (48), 2) := by decide +kernel
theorem dc_Mo_integer_117 : decode bc_Mo_integer 117 = .ok (.if_icmp .lt (19), 3) := by decide +kernel
theorem dc_Mo_integer_120 : decode bc_Mo_integer 120 = .ok (.aload_n 0, 1) := by decide +kernel
theorem dc_Mo_integer_121 : decode bc_Mo_integer 121 = .ok (.getfield 7, 3) := by decide +kernel
theorem dc_Mo_integer_124 : decode bc_Mo_integer 124 = .ok (.iload 4, 2) := by decide +kernel
theorem dc_Mo_integer_126 : decode bc_Mo_integer 126 = .ok (.iaload, 1) := by decide +kernel
theorem dc_Mo_integer_127 : decode bc_Mo_integer 127 = .ok (.bipush (57), 2) := by decide +kernel
theorem dc_Mo_integer_129 : decode bc_Mo_integer 129 = .ok (.if_icmp .gt (7), 3) := by decide +kernel
theorem dc_Mo_integer_132 : decode bc_Mo_integer 132 = .ok (.iconst 1, 1) := by decide +kernel
theorem dc_Mo_integer_133 : decode bc_Mo_integer 133 = .ok (.goto (4), 3) := by decide +kernel
theorem dc_Mo_integer_136 : decode bc_Mo_integer 136 = .ok (.iconst 0, 1) := by decide +kernel
theorem dc_Mo_integer_137 : decode bc_Mo_integer 137 = .ok (.putfield 87, 3) := by decide +kernel
theorem dc_Mo_integer_140 : decode bc_Mo_integer 140 = .ok (.bipush (10), 2) := by decide +kernel
theorem dc_Mo_integer_142 : decode bc_Mo_integer 142 = .ok (.iload_n 3, 1) := by decide +kernel
theorem dc_Mo_integer_143 : decode bc_Mo_integer 143 = .ok (.imul, 1) := by decide +kernel
theorem dc_Mo_integer_144 : decode bc_Mo_integer 144 = .ok (.aload_n 0, 1) := by decide +kernel
theorem dc_Mo_integer_145 : decode bc_Mo_integer 145 = .ok (.getfield 7, 3) := by decide +kernel
theorem dc_Mo_integer_148 : decode bc_Mo_integer 148 = .ok (.iload 4, 2) := by decide +kernel
theorem dc_Mo_integer_150 : decode bc_Mo_integer 150 = .ok (.iaload, 1) := by decide +kernel
theorem dc_Mo_integer_151 : decode bc_Mo_integer 151 = .ok (.iadd, 1) := by decide +kernel
theorem dc_Mo_integer_152 : decode bc_Mo_integer 152 = .ok (.bipush (48), 2) := by decide +kernel
theorem dc_Mo_integer_154 : decode bc_Mo_integer 154 = .ok (.isub, 1) := by decide +kernel
theorem dc_Mo_integer_155 : decode bc_Mo_integer 155 = .ok (.istore_n 3, 1) := by decide +kernel
theorem dc_Mo_integer_156 : decode bc_Mo_integer 156 = .ok (.iinc 4 (1), 3) := by decide +kernel
theorem dc_Mo_integer_159 : decode bc_Mo_integer 159 = .ok (.goto (-68), 3) := by decide +kernel
theorem dc_Mo_integer_162 : decode bc_Mo_integer 162 = .ok (.aload_n 0, 1) := by decide +kernel
theorem dc_Mo_integer_163 : decode bc_Mo_integer 163 = .ok (.aload_n 0, 1) := by decide +kernel
theorem dc_Mo_integer_164 : decode bc_Mo_integer 164 = .ok (.getfield 87, 3) := by decide +kernel
theorem dc_Mo_integer_167 : decode bc_Mo_integer 167 = .ok (.ifCond .eq (31), 3) := by decide +kernel
theorem dc_Mo_integer_170 : decode bc_Mo_integer 170 = .ok (.aload_n 0, 1) := by decide +kernel
theorem dc_Mo_integer_171 : decode bc_Mo_integer 171 = .ok (.getfield 7, 3) := by decide +kernel
theorem dc_Mo_integer_174 : decode bc_Mo_integer 174 = .ok (.iload_n 2, 1) := by decide +kernel
theorem dc_Mo_integer_175 : decode bc_Mo_integer 175 = .ok (.iaload, 1) := by decide +kernel
theorem dc_Mo_integer_176 : decode bc_Mo_integer 176 = .ok (.bipush (48), 2) := by decide +kernel
theorem dc_Mo_integer_178 : decode bc_Mo_integer 178 = .ok (.if_icmp .ne (16), 3) := by decide +kernel
theorem dc_Mo_integer_181 : decode bc_Mo_integer 181 = .ok (.aload_n 0, 1) := by decide +kernel
theorem dc_Mo_integer_182 : decode bc_Mo_integer 182 = .ok (.getfield 84, 3) := by decide +kernel
theorem dc_Mo_integer_185 : decode bc_Mo_integer 185 = .ok (.aload_n 0, 1) := by decide +kernel
theorem dc_Mo_integer_186 : decode bc_Mo_integer 186 = .ok (.getfield 81, 3) := by decide +kernel
theorem dc_Mo_integer_189 : decode bc_Mo_integer 189 = .ok (.isub, 1) := by decide +kernel
theorem dc_Mo_integer_190 : decode bc_Mo_integer 190 = .ok (.iconst 1, 1) := by decide +kernel
theorem dc_Mo_integer_191 : decode bc_Mo_integer 191 = .ok (.if_icmp .ne (7), 3) := by decide +kernel
theorem dc_Mo_integer_194 : decode bc_Mo_integer 194 = .ok (.iconst 1, 1) := by decide +kernel
theorem dc_Mo_integer_195 : decode bc_Mo_integer 195 = .ok (.goto (4), 3) := by decide +kernel
theorem dc_Mo_integer_198 : decode bc_Mo_integer 198 = .ok (.iconst 0, 1) := by decide +kernel
theorem dc_Mo_integer_199 : decode bc_Mo_integer 199 = .ok (.putfield 87, 3) := by decide +kernel
theorem dc_Mo_integer_202 : decode bc_Mo_integer 202 = .ok (.aload_n 0, 1) := by decide +kernel
theorem dc_Mo_integer_203 : decode bc_Mo_integer 203 = .ok (.getfield 87, 3) := by decide +kernel
theorem dc_Mo_integer_206 : decode bc_Mo_integer 206 = .ok (.ifCond .ne (7), 3) := by decide +kernel
theorem dc_Mo_integer_209 : decode bc_Mo_integer 209 = .ok (.iconst 0, 1) := by decide +kernel
theorem dc_Mo_integer_210 : decode bc_Mo_integer 210 = .ok (.goto (13), 3) := by decide +kernel
theorem dc_Mo_integer_213 : decode bc_Mo_integer 213 = .ok (.iload_n 1, 1) := by decide +kernel
theorem dc_Mo_integer_214 : decode bc_Mo_integer 214 = .ok (.ifCond .eq (8), 3) := by decide +kernel
theorem dc_Mo_integer_217 : decode bc_Mo_integer 217 = .ok (.iload_n 3, 1) := by decide +kernel
theorem dc_Mo_integer_218 : decode bc_Mo_integer 218 = .ok (.ineg, 1) := by decide +kernel
theorem dc_Mo_integer_219 : decode bc_Mo_integer 219 = .ok (.goto (4), 3) := by decide +kernel
theorem dc_Mo_integer_222 : decode bc_Mo_integer 222 = .ok (.iload_n 3, 1) := by decide +kernel
theorem dc_Mo_integer_223 : decode bc_Mo_integer 223 = .ok (.ireturn, 1) := by decide +kernel
theorem dc_Mo_beginClause_0 : decode bc_Mo_beginClause 0 = .ok (.aload_n 0, 1) := by decide +kernel
theorem dc_Mo_beginClause_1 : decode bc_Mo_beginClause 1 = .ok (.aload_n 0, 1) := by decide +kernel
theorem dc_Mo_beginClause_2 : decode bc_Mo_beginClause 2 = .ok (.getfield 87, 3) := by decide +kernel
theorem dc_Mo_beginClause_5 : decode bc_Mo_beginClause 5 = .ok (.ifCond .eq (16), 3) := by decide +kernel
theorem dc_Mo_beginClause_8 : decode bc_Mo_beginClause 8 = .ok (.aload_n 0, 1) := by decide +kernel
theorem dc_Mo_beginClause_9 : decode bc_Mo_beginClause 9 = .ok (.getfield 91, 3) := by decide +kernel
theorem dc_Mo_beginClause_12 : decode bc_Mo_beginClause 12 = .ok (.bipush (16), 2) := by decide +kernel
theorem dc_Mo_beginClause_14 : decode bc_Mo_beginClause 14 = .ok (.if_icmp .ge (7), 3) := by decide +kernel
theorem dc_Mo_beginClause_17 : decode bc_Mo_beginClause 17 = .ok (.iconst 1, 1) := by decide +kernel
theorem dc_Mo_beginClause_18 : decode bc_Mo_beginClause 18 = .ok (.goto (4), 3) := by decide +kernel
theorem dc_Mo_beginClause_21 : decode bc_Mo_beginClause 21 = .ok (.iconst 0, 1) := by decide +kernel
theorem dc_Mo_beginClause_22 : decode bc_Mo_beginClause 22 = .ok (.putfield 87, 3) := by decide +kernel
theorem dc_Mo_beginClause_25 : decode bc_Mo_beginClause 25 = .ok (.aload_n 0, 1) := by decide +kernel
theorem dc_Mo_beginClause_26 : decode bc_Mo_beginClause 26 = .ok (.getfield 87, 3) := by decide +kernel
theorem dc_Mo_beginClause_29 : decode bc_Mo_beginClause 29 = .ok (.ifCond .eq (23), 3) := by decide +kernel
theorem dc_Mo_beginClause_32 : decode bc_Mo_beginClause 32 = .ok (.aload_n 0, 1) := by decide +kernel
theorem dc_Mo_beginClause_33 : decode bc_Mo_beginClause 33 = .ok (.getfield 13, 3) := by decide +kernel
theorem dc_Mo_beginClause_36 : decode bc_Mo_beginClause 36 = .ok (.aload_n 0, 1) := by decide +kernel
theorem dc_Mo_beginClause_37 : decode bc_Mo_beginClause 37 = .ok (.getfield 91, 3) := by decide +kernel
theorem dc_Mo_beginClause_40 : decode bc_Mo_beginClause 40 = .ok (.iconst 0, 1) := by decide +kernel
theorem dc_Mo_beginClause_41 : decode bc_Mo_beginClause 41 = .ok (.iastore, 1) := by decide +kernel
theorem dc_Mo_beginClause_42 : decode bc_Mo_beginClause 42 = .ok (.aload_n 0, 1) := by decide +kernel
theorem dc_Mo_beginClause_43 : decode bc_Mo_beginClause 43 = .ok (.getfield 19, 3) := by decide +kernel
theorem dc_Mo_beginClause_46 : decode bc_Mo_beginClause 46 = .ok (.aload_n 0, 1) := by decide +kernel
theorem dc_Mo_beginClause_47 : decode bc_Mo_beginClause 47 = .ok (.getfield 91, 3) := by decide +kernel
theorem dc_Mo_beginClause_50 : decode bc_Mo_beginClause 50 = .ok (.iload_n 1, 1) := by decide +kernel
theorem dc_Mo_beginClause_51 : decode bc_Mo_beginClause 51 = .ok (.bastore, 1) := by decide +kernel
theorem dc_Mo_beginClause_52 : decode bc_Mo_beginClause 52 = .ok (.return_, 1) := by decide +kernel
theorem dc_Mo_take_0 : decode bc_Mo_take 0 = .ok (.iload_n 1, 1) := by decide +kernel
theorem dc_Mo_take_1 : decode bc_Mo_take 1 = .ok (.ifCond .ge (8), 3) := by decide +kernel
theorem dc_Mo_take_4 : decode bc_Mo_take 4 = .ok (.iload_n 1, 1) := by decide +kernel
theorem dc_Mo_take_5 : decode bc_Mo_take 5 = .ok (.ineg, 1) := by decide +kernel
theorem dc_Mo_take_6 : decode bc_Mo_take 6 = .ok (.goto (4), 3) := by decide +kernel
theorem dc_Mo_take_9 : decode bc_Mo_take 9 = .ok (.iload_n 1, 1) := by decide +kernel
theorem dc_Mo_take_10 : decode bc_Mo_take 10 = .ok (.istore_n 3, 1) := by decide +kernel
theorem dc_Mo_take_11 : decode bc_Mo_take 11 = .ok (.aload_n 0, 1) := by decide +kernel
theorem dc_Mo_take_12 : decode bc_Mo_take 12 = .ok (.aload_n 0, 1) := by decide +kernel
theorem dc_Mo_take_13 : decode bc_Mo_take 13 = .ok (.getfield 87, 3) := by decide +kernel
theorem dc_Mo_take_16 : decode bc_Mo_take 16 = .ok (.ifCond .eq (17), 3) := by decide +kernel
theorem dc_Mo_take_19 : decode bc_Mo_take 19 = .ok (.iload_n 3, 1) := by decide +kernel
theorem dc_Mo_take_20 : decode bc_Mo_take 20 = .ok (.iconst 1, 1) := by decide +kernel
theorem dc_Mo_take_21 : decode bc_Mo_take 21 = .ok (.if_icmp .lt (12), 3) := by decide +kernel
theorem dc_Mo_take_24 : decode bc_Mo_take 24 = .ok (.iload_n 3, 1) := by decide +kernel
theorem dc_Mo_take_25 : decode bc_Mo_take 25 = .ok (.iload_n 2, 1) := by decide +kernel
theorem dc_Mo_take_26 : decode bc_Mo_take 26 = .ok (.if_icmp .gt (7), 3) := by decide +kernel
theorem dc_Mo_take_29 : decode bc_Mo_take 29 = .ok (.iconst 1, 1) := by decide +kernel
theorem dc_Mo_take_30 : decode bc_Mo_take 30 = .ok (.goto (4), 3) := by decide +kernel
theorem dc_Mo_take_33 : decode bc_Mo_take 33 = .ok (.iconst 0, 1) := by decide +kernel
theorem dc_Mo_take_34 : decode bc_Mo_take 34 = .ok (.putfield 87, 3) := by decide +kernel
theorem dc_Mo_take_37 : decode bc_Mo_take 37 = .ok (.iconst 0, 1) := by decide +kernel
theorem dc_Mo_take_38 : decode bc_Mo_take 38 = .ok (.istore 4, 2) := by decide +kernel
theorem dc_Mo_take_40 : decode bc_Mo_take 40 = .ok (.iload 4, 2) := by decide +kernel
theorem dc_Mo_take_42 : decode bc_Mo_take 42 = .ok (.aload_n 0, 1) := by decide +kernel
theorem dc_Mo_take_43 : decode bc_Mo_take 43 = .ok (.getfield 13, 3) := by decide +kernel
theorem dc_Mo_take_46 : decode bc_Mo_take 46 = .ok (.aload_n 0, 1) := by decide +kernel
theorem dc_Mo_take_47 : decode bc_Mo_take 47 = .ok (.getfield 91, 3) := by decide +kernel
theorem dc_Mo_take_50 : decode bc_Mo_take 50 = .ok (.iaload, 1) := by decide +kernel
theorem dc_Mo_take_51 : decode bc_Mo_take 51 = .ok (.if_icmp .ge (55), 3) := by decide +kernel
theorem dc_Mo_take_54 : decode bc_Mo_take 54 = .ok (.aload_n 0, 1) := by decide +kernel
theorem dc_Mo_take_55 : decode bc_Mo_take 55 = .ok (.getfield 87, 3) := by decide +kernel
theorem dc_Mo_take_58 : decode bc_Mo_take 58 = .ok (.ifCond .eq (48), 3) := by decide +kernel
theorem dc_Mo_take_61 : decode bc_Mo_take 61 = .ok (.aload_n 0, 1) := by decide +kernel
theorem dc_Mo_take_62 : decode bc_Mo_take 62 = .ok (.getfield 16, 3) := by decide +kernel
theorem dc_Mo_take_65 : decode bc_Mo_take 65 = .ok (.bipush (8), 2) := by decide +kernel
theorem dc_Mo_take_67 : decode bc_Mo_take 67 = .ok (.aload_n 0, 1) := by decide +kernel
theorem dc_Mo_take_68 : decode bc_Mo_take 68 = .ok (.getfield 91, 3) := by decide +kernel
theorem dc_Mo_take_71 : decode bc_Mo_take 71 = .ok (.imul, 1) := by decide +kernel
theorem dc_Mo_take_72 : decode bc_Mo_take 72 = .ok (.iload 4, 2) := by decide +kernel
theorem dc_Mo_take_74 : decode bc_Mo_take 74 = .ok (.iadd, 1) := by decide +kernel
theorem dc_Mo_take_75 : decode bc_Mo_take 75 = .ok (.iaload, 1) := by decide +kernel
theorem dc_Mo_take_76 : decode bc_Mo_take 76 = .ok (.istore 5, 2) := by decide +kernel
theorem dc_Mo_take_78 : decode bc_Mo_take 78 = .ok (.aload_n 0, 1) := by decide +kernel
theorem dc_Mo_take_79 : decode bc_Mo_take 79 = .ok (.iload 5, 2) := by decide +kernel
theorem dc_Mo_take_81 : decode bc_Mo_take 81 = .ok (.iload_n 1, 1) := by decide +kernel
theorem dc_Mo_take_82 : decode bc_Mo_take 82 = .ok (.if_icmp .eq (14), 3) := by decide +kernel
theorem dc_Mo_take_85 : decode bc_Mo_take 85 = .ok (.iload 5, 2) := by decide +kernel
theorem dc_Mo_take_87 : decode bc_Mo_take 87 = .ok (.iload_n 1, 1) := by decide +kernel
theorem dc_Mo_take_88 : decode bc_Mo_take 88 = .ok (.ineg, 1) := by decide +kernel
theorem dc_Mo_take_89 : decode bc_Mo_take 89 = .ok (.if_icmp .eq (7), 3) := by decide +kernel
theorem dc_Mo_take_92 : decode bc_Mo_take 92 = .ok (.iconst 1, 1) := by decide +kernel
theorem dc_Mo_take_93 : decode bc_Mo_take 93 = .ok (.goto (4), 3) := by decide +kernel
theorem dc_Mo_take_96 : decode bc_Mo_take 96 = .ok (.iconst 0, 1) := by decide +kernel
theorem dc_Mo_take_97 : decode bc_Mo_take 97 = .ok (.putfield 87, 3) := by decide +kernel
theorem dc_Mo_take_100 : decode bc_Mo_take 100 = .ok (.iinc 4 (1), 3) := by decide +kernel
theorem dc_Mo_take_103 : decode bc_Mo_take 103 = .ok (.goto (-63), 3) := by decide +kernel
theorem dc_Mo_take_106 : decode bc_Mo_take 106 = .ok (.aload_n 0, 1) := by decide +kernel
theorem dc_Mo_take_107 : decode bc_Mo_take 107 = .ok (.getfield 87, 3) := by decide +kernel
theorem dc_Mo_take_110 : decode bc_Mo_take 110 = .ok (.ifCond .eq (39), 3) := by decide +kernel
theorem dc_Mo_take_113 : decode bc_Mo_take 113 = .ok (.aload_n 0, 1) := by decide +kernel
theorem dc_Mo_take_114 : decode bc_Mo_take 114 = .ok (.getfield 16, 3) := by decide +kernel
theorem dc_Mo_take_117 : decode bc_Mo_take 117 = .ok (.bipush (8), 2) := by decide +kernel
theorem dc_Mo_take_119 : decode bc_Mo_take 119 = .ok (.aload_n 0, 1) := by decide +kernel
theorem dc_Mo_take_120 : decode bc_Mo_take 120 = .ok (.getfield 91, 3) := by decide +kernel
theorem dc_Mo_take_123 : decode bc_Mo_take 123 = .ok (.imul, 1) := by decide +kernel
theorem dc_Mo_take_124 : decode bc_Mo_take 124 = .ok (.aload_n 0, 1) := by decide +kernel
theorem dc_Mo_take_125 : decode bc_Mo_take 125 = .ok (.getfield 13, 3) := by decide +kernel
theorem dc_Mo_take_128 : decode bc_Mo_take 128 = .ok (.aload_n 0, 1) := by decide +kernel
theorem dc_Mo_take_129 : decode bc_Mo_take 129 = .ok (.getfield 91, 3) := by decide +kernel
theorem dc_Mo_take_132 : decode bc_Mo_take 132 = .ok (.iaload, 1) := by decide +kernel
theorem dc_Mo_take_133 : decode bc_Mo_take 133 = .ok (.iadd, 1) := by decide +kernel
theorem dc_Mo_take_134 : decode bc_Mo_take 134 = .ok (.iload_n 1, 1) := by decide +kernel
theorem dc_Mo_take_135 : decode bc_Mo_take 135 = .ok (.iastore, 1) := by decide +kernel
theorem dc_Mo_take_136 : decode bc_Mo_take 136 = .ok (.aload_n 0, 1) := by decide +kernel
theorem dc_Mo_take_137 : decode bc_Mo_take 137 = .ok (.getfield 13, 3) := by decide +kernel
theorem dc_Mo_take_140 : decode bc_Mo_take 140 = .ok (.aload_n 0, 1) := by decide +kernel
theorem dc_Mo_take_141 : decode bc_Mo_take 141 = .ok (.getfield 91, 3) := by decide +kernel
theorem dc_Mo_take_144 : decode bc_Mo_take 144 = .ok (.dup2, 1) := by decide +kernel
theorem dc_Mo_take_145 : decode bc_Mo_take 145 = .ok (.iaload, 1) := by decide +kernel
theorem dc_Mo_take_146 : decode bc_Mo_take 146 = .ok (.iconst 1, 1) := by decide +kernel
theorem dc_Mo_take_147 : decode bc_Mo_take 147 = .ok (.iadd, 1) := by decide +kernel
theorem dc_Mo_take_148 : decode bc_Mo_take 148 = .ok (.iastore, 1) := by decide +kernel
theorem dc_Mo_take_149 : decode bc_Mo_take 149 = .ok (.return_, 1) := by decide +kernel
set_option maxHeartbeats 4000000 in
set_option maxRecDepth 100000 in
theorem ct_Mo_integer (l : Launch) (D : va_G) (cI cZ : ClassId) (sz : Nat) (o : Nat) (mth : Nat) (mty : Nat) (x0 : Nat) (mat : Nat) (mfr : Nat) (mto : Nat) (mgd : Bool) (mrd : Nat) (x1 : Nat) (x2 : Nat) (x3 : Nat) (mhf : Bool) (mhp : Bool) (mcl : Bool) (mck : Bool) (mba : Nat) (mct : Nat) (x4 : Nat) (x5 : Nat) (x6 : Nat) (x7 : Nat) (x8 : Nat) (mst : Nat) (x9 : Nat) (x10 : Nat) (x11 : Nat) (x12 : Nat) (mtr : Nat) (mrs : Nat) (x13 : Nat) (x14 : Nat) (x15 : Nat) (x16 : Nat) (mwr : Nat) (x17 : Nat) (mfo : Nat) (t : Nat → Nat) (hgd : mgd = true) (hft : mfr ≤ mto) (hto : mto ≤ 250) (ht : ∀ j, t j < 256) : Met l yn_Mo_integer (Cond.code yn_Mo_integer bc_Mo_integer 5 (some .int) :: kx_all) ({ frames := 0, cells := 0, slots := 0, locals := 0 } : Room) (kp [.ref o] D cI cZ [mo_c o mth mty x0 mat mfr mto mgd mrd x1 x2 x3 mhf mhp mcl mck mba mct x4 x5 x6 x7 x8 mst x9 x10 x11 x12 mtr mrs x13 x14 x15 x16 mwr x17 mfo, ar_n cI x0 250 t] sz) (kw_q (some (.int ((pt_int t mfr mto).getD 0))) D kc_l [mo_c o mth mty x0 mat mfr mto ((pt_int t mfr mto).isSome) mrd x1 x2 x3 mhf mhp mcl mck mba mct x4 x5 x6 x7 x8 mst x9 x10 x11 x12 mtr mrs x13 x14 x15 x16 mwr x17 mfo, ar_n cI x0 250 t] (va_A [mo_c o mth mty x0 mat mfr mto mgd mrd x1 x2 x3 mhf mhp mcl mck mba mct x4 x5 x6 x7 x8 mst x9 x10 x11 x12 mtr mrs x13 x14 x15 x16 mwr x17 mfo, ar_n cI x0 250 t] sz)) 0 0 (va_A [mo_c o mth mty x0 mat mfr mto mgd mrd x1 x2 x3 mhf mhp mcl mck mba mct x4 x5 x6 x7 x8 mst x9 x10 x11 x12 mtr mrs x13 x14 x15 x16 mwr x17 mfo, ar_n cI x0 250 t] sz) := by
  refine kx_metW (by decide) (Nat.le_of_ble_eq_true rfl) ?_
  intro p e s m below meth c ls A hx hb hr hml hts hown hlocks hin hA hP hK hD hN hl hS
  have hown : s.vm.findClass rn_Mo = some m.cls := hown
  have hl : lv_has ls 5 [(0, .ref o)] := hl
  by_cases hneg : mfr < mto ∧ t mfr = 45
  · refine lv_aload_n hx hb dc_Mo_integer_0 rfl (lv_at hl 0 rfl) ?_
    refine va_get (ci := 10) (v := .int (nI mto)) (C := rn_Mo) (T := fd_Mo) (N := 36) hx hb hts in_Mo hown hK hP 0 rfl rfl 5 (by decide) (hts _ wd_751) (fun _ h9 => h9) rfl dc_Mo_integer_1 ?_
    refine lv_aload_n hx hb dc_Mo_integer_4 rfl (lv_at hl 0 rfl) ?_
    refine va_get (ci := 10) (v := .int (nI mfr)) (C := rn_Mo) (T := fd_Mo) (N := 36) hx hb hts in_Mo hown hK hP 0 rfl rfl 4 (by decide) (hts _ wd_750) (fun _ h9 => h9) rfl dc_Mo_integer_5 ?_
    refine kn_icmp_le hx hb (by omega) (by omega) dc_Mo_integer_8 rfl (fun hc8 => ?_) (fun hc8 => ?_)
    · exfalso; omega
    · refine lv_aload_n hx hb dc_Mo_integer_11 rfl (lv_at hl 0 rfl) ?_
      refine va_get (ci := 10) (v := .ref x0) (C := rn_Mo) (T := fd_Mo) (N := 36) hx hb hts in_Mo hown hK hP 0 rfl rfl 2 (by decide) (hts _ wd_748) (fun _ h9 => h9) rfl dc_Mo_integer_12 ?_
      refine lv_aload_n hx hb dc_Mo_integer_15 rfl (lv_at hl 0 rfl) ?_
      refine va_get (ci := 10) (v := .int (nI mfr)) (C := rn_Mo) (T := fd_Mo) (N := 36) hx hb hts in_Mo hown hK hP 0 rfl rfl 4 (by decide) (hts _ wd_750) (fun _ h9 => h9) rfl dc_Mo_integer_16 ?_
      refine ka_nald (t := t) hx hb hK hP 1 0 rfl rfl (j := mfr) (by omega) (by omega) dc_Mo_integer_19 ?_
      refine lv_bipush (v := nI 45) hx hb dc_Mo_integer_20 (by decide +kernel) ?_
      refine kn_icmp_ne hx hb (Nat.lt_trans (ht mfr) (by decide)) (by omega) dc_Mo_integer_22 rfl (fun hc22 => ?_) (fun hc22 => ?_)
      · exact absurd hneg.2 hc22
      · refine lv_iconst (v := nI 1) hx hb dc_Mo_integer_25 (by decide +kernel) ?_
        refine lv_goto hx hb dc_Mo_integer_26 rfl ?_
        refine lv_istore_n (lv' := [(1, .int (nI 1)), (0, .ref o)]) hx hb dc_Mo_integer_30 rfl hl (by decide) rfl (fun ls hl => ?_)
        refine lv_iload_n hx hb dc_Mo_integer_31 rfl (lv_at hl 0 rfl) ?_
        refine kn_if_eq hx hb (by omega) dc_Mo_integer_32 rfl (fun hc32 => ?_) (fun hc32 => ?_)
        · exfalso; omega
        · refine lv_aload_n hx hb dc_Mo_integer_35 rfl (lv_at hl 1 rfl) ?_
          refine va_get (ci := 10) (v := .int (nI mfr)) (C := rn_Mo) (T := fd_Mo) (N := 36) hx hb hts in_Mo hown hK hP 0 rfl rfl 4 (by decide) (hts _ wd_750) (fun _ h9 => h9) rfl dc_Mo_integer_36 ?_
          refine lv_iconst (v := nI 1) hx hb dc_Mo_integer_39 (by decide +kernel) ?_
          refine kn_iadd hx hb dc_Mo_integer_40 ?_
          refine lv_goto hx hb dc_Mo_integer_41 rfl ?_
          refine lv_istore_n (lv' := [(2, .int (nI (mfr + 1))), (1, .int (nI 1)), (0, .ref o)]) hx hb dc_Mo_integer_48 rfl hl (by decide) rfl (fun ls hl => ?_)
          refine lv_iconst (v := nI 0) hx hb dc_Mo_integer_49 (by decide +kernel) ?_
          refine lv_istore_n (lv' := [(3, .int (nI 0)), (2, .int (nI (mfr + 1))), (1, .int (nI 1)), (0, .ref o)]) hx hb dc_Mo_integer_50 rfl hl (by decide) rfl (fun ls hl => ?_)
          refine lv_aload_n hx hb dc_Mo_integer_51 rfl (lv_at hl 3 rfl) ?_
          refine lv_aload_n hx hb dc_Mo_integer_52 rfl (lv_at hl 3 rfl) ?_
          refine va_get (ci := 10) (v := .int (kb_i mgd)) (C := rn_Mo) (T := fd_Mo) (N := 36) hx hb hts in_Mo hown hK hP 0 rfl rfl 6 (by decide) (hts _ wd_752) (fun _ h9 => h9) rfl dc_Mo_integer_53 ?_
          refine kb_if_eq hx hb dc_Mo_integer_56 rfl (fun hc56 => ?_) (fun hc56 => ?_)
          · exact absurd hc56 (by rw [hgd]; decide)
          · refine lv_aload_n hx hb dc_Mo_integer_59 rfl (lv_at hl 3 rfl) ?_
            refine va_get (ci := 10) (v := .int (nI mto)) (C := rn_Mo) (T := fd_Mo) (N := 36) hx hb hts in_Mo hown hK hP 0 rfl rfl 5 (by decide) (hts _ wd_751) (fun _ h9 => h9) rfl dc_Mo_integer_60 ?_
            refine lv_iload_n hx hb dc_Mo_integer_63 rfl (lv_at hl 1 rfl) ?_
            refine kn_icmp_le hx hb (by omega) (by omega) dc_Mo_integer_64 rfl (fun hc64 => ?_) (fun hc64 => ?_)
            · refine lv_iconst (v := nI 0) hx hb dc_Mo_integer_84 (by decide +kernel) ?_
              refine kn_top (y := kb_i false) (by decide +kernel) ?_
              refine va_put (ci := 10) (v := .int (kb_i false)) (ty := .boolean) (C := rn_Mo) (T := fd_Mo) (N := 36) hx hb hts in_Mo ty_Mo tk_Mo nm_Mo hown hK hP hD hS 0 rfl rfl 6 (by decide) (hts _ wd_752) (fun _ h9 => h9) rfl (by decide +kernel) (kb_nar _) (kb_fit _) (Nat.le_of_ble_eq_true rfl) dc_Mo_integer_85 (fun H locs hP hD hS => ?_)
              have hP : va_P D kc_l [mo_c o mth mty x0 mat mfr mto false mrd x1 x2 x3 mhf mhp mcl mck mba mct x4 x5 x6 x7 x8 mst x9 x10 x11 x12 mtr mrs x13 x14 x15 x16 mwr x17 mfo, ar_n cI x0 250 t] H := hP
              have hD : va_D A [mo_c o mth mty x0 mat mfr mto false mrd x1 x2 x3 mhf mhp mcl mck mba mct x4 x5 x6 x7 x8 mst x9 x10 x11 x12 mtr mrs x13 x14 x15 x16 mwr x17 mfo, ar_n cI x0 250 t] := hD
              refine lv_iload_n hx hb dc_Mo_integer_88 rfl (lv_at hl 1 rfl) ?_
              refine lv_istore (lv' := [(4, .int (nI (mfr + 1))), (3, .int (nI 0)), (2, .int (nI (mfr + 1))), (1, .int (nI 1)), (0, .ref o)]) hx hb dc_Mo_integer_89 hl (by decide) rfl (fun ls hl => ?_)
              refine lv_iload hx hb dc_Mo_integer_91 (lv_at hl 0 rfl) ?_
              refine lv_aload_n hx hb dc_Mo_integer_93 rfl (lv_at hl 4 rfl) ?_
              refine va_get (ci := 10) (v := .int (nI mto)) (C := rn_Mo) (T := fd_Mo) (N := 36) hx hb hts in_Mo hown hK hP 0 rfl rfl 5 (by decide) (hts _ wd_751) (fun _ h9 => h9) rfl dc_Mo_integer_94 ?_
              refine kn_icmp_ge hx hb (by omega) (by omega) dc_Mo_integer_97 rfl (fun hc97 => ?_) (fun hc97 => ?_)
              · refine lv_aload_n hx hb dc_Mo_integer_162 rfl (lv_at hl 4 rfl) ?_
                refine lv_aload_n hx hb dc_Mo_integer_163 rfl (lv_at hl 4 rfl) ?_
                refine va_get (ci := 10) (v := .int (kb_i false)) (C := rn_Mo) (T := fd_Mo) (N := 36) hx hb hts in_Mo hown hK hP 0 rfl rfl 6 (by decide) (hts _ wd_752) (fun _ h9 => h9) rfl dc_Mo_integer_164 ?_
                refine kb_if_eq hx hb dc_Mo_integer_167 rfl (fun hc167 => ?_) (fun hc167 => ?_)
                · refine lv_iconst (v := nI 0) hx hb dc_Mo_integer_198 (by decide +kernel) ?_
                  have hpi : pt_int t mfr mto = none := by rw [pi_n hneg, if_pos (Or.inl (by omega))]
                  refine kn_top (y := kb_i false) (by decide +kernel) ?_
                  refine va_put (ci := 10) (v := .int (kb_i false)) (ty := .boolean) (C := rn_Mo) (T := fd_Mo) (N := 36) hx hb hts in_Mo ty_Mo tk_Mo nm_Mo hown hK hP hD hS 0 rfl rfl 6 (by decide) (hts _ wd_752) (fun _ h9 => h9) rfl (by decide +kernel) (kb_nar _) (kb_fit _) (Nat.le_of_ble_eq_true rfl) dc_Mo_integer_199 (fun H locs hP hD hS => ?_)
                  have hP : va_P D kc_l [mo_c o mth mty x0 mat mfr mto false mrd x1 x2 x3 mhf mhp mcl mck mba mct x4 x5 x6 x7 x8 mst x9 x10 x11 x12 mtr mrs x13 x14 x15 x16 mwr x17 mfo, ar_n cI x0 250 t] H := hP
                  have hD : va_D A [mo_c o mth mty x0 mat mfr mto false mrd x1 x2 x3 mhf mhp mcl mck mba mct x4 x5 x6 x7 x8 mst x9 x10 x11 x12 mtr mrs x13 x14 x15 x16 mwr x17 mfo, ar_n cI x0 250 t] := hD
                  refine lv_aload_n hx hb dc_Mo_integer_202 rfl (lv_at hl 4 rfl) ?_
                  refine va_get (ci := 10) (v := .int (kb_i false)) (C := rn_Mo) (T := fd_Mo) (N := 36) hx hb hts in_Mo hown hK hP 0 rfl rfl 6 (by decide) (hts _ wd_752) (fun _ h9 => h9) rfl dc_Mo_integer_203 ?_
                  refine kb_if_ne hx hb dc_Mo_integer_206 rfl (fun hc206 => ?_) (fun hc206 => ?_)
                  · exact absurd hc206 (by decide)
                  · refine lv_iconst (v := nI 0) hx hb dc_Mo_integer_209 (by decide +kernel) ?_
                    refine lv_goto hx hb dc_Mo_integer_210 rfl ?_
                    exact kw_iret hx hb hr hlocks hP hD hS dc_Mo_integer_223 (by rw [hpi]; rfl) (by rw [hpi]; rfl)
                · exact absurd hc167 (by decide)
              · refine lv_aload_n hx hb dc_Mo_integer_100 rfl (lv_at hl 4 rfl) ?_
                refine va_get (ci := 10) (v := .int (kb_i false)) (C := rn_Mo) (T := fd_Mo) (N := 36) hx hb hts in_Mo hown hK hP 0 rfl rfl 6 (by decide) (hts _ wd_752) (fun _ h9 => h9) rfl dc_Mo_integer_101 ?_
                refine kb_if_eq hx hb dc_Mo_integer_104 rfl (fun hc104 => ?_) (fun hc104 => ?_)
                · refine lv_aload_n hx hb dc_Mo_integer_162 rfl (lv_at hl 4 rfl) ?_
                  refine lv_aload_n hx hb dc_Mo_integer_163 rfl (lv_at hl 4 rfl) ?_
                  refine va_get (ci := 10) (v := .int (kb_i false)) (C := rn_Mo) (T := fd_Mo) (N := 36) hx hb hts in_Mo hown hK hP 0 rfl rfl 6 (by decide) (hts _ wd_752) (fun _ h9 => h9) rfl dc_Mo_integer_164 ?_
                  refine kb_if_eq hx hb dc_Mo_integer_167 rfl (fun hc167 => ?_) (fun hc167 => ?_)
                  · refine lv_iconst (v := nI 0) hx hb dc_Mo_integer_198 (by decide +kernel) ?_
                    have hpi : pt_int t mfr mto = none := by rw [pi_n hneg, if_pos (Or.inl (by omega))]
                    refine kn_top (y := kb_i false) (by decide +kernel) ?_
                    refine va_put (ci := 10) (v := .int (kb_i false)) (ty := .boolean) (C := rn_Mo) (T := fd_Mo) (N := 36) hx hb hts in_Mo ty_Mo tk_Mo nm_Mo hown hK hP hD hS 0 rfl rfl 6 (by decide) (hts _ wd_752) (fun _ h9 => h9) rfl (by decide +kernel) (kb_nar _) (kb_fit _) (Nat.le_of_ble_eq_true rfl) dc_Mo_integer_199 (fun H locs hP hD hS => ?_)
                    have hP : va_P D kc_l [mo_c o mth mty x0 mat mfr mto false mrd x1 x2 x3 mhf mhp mcl mck mba mct x4 x5 x6 x7 x8 mst x9 x10 x11 x12 mtr mrs x13 x14 x15 x16 mwr x17 mfo, ar_n cI x0 250 t] H := hP
                    have hD : va_D A [mo_c o mth mty x0 mat mfr mto false mrd x1 x2 x3 mhf mhp mcl mck mba mct x4 x5 x6 x7 x8 mst x9 x10 x11 x12 mtr mrs x13 x14 x15 x16 mwr x17 mfo, ar_n cI x0 250 t] := hD
                    refine lv_aload_n hx hb dc_Mo_integer_202 rfl (lv_at hl 4 rfl) ?_
                    refine va_get (ci := 10) (v := .int (kb_i false)) (C := rn_Mo) (T := fd_Mo) (N := 36) hx hb hts in_Mo hown hK hP 0 rfl rfl 6 (by decide) (hts _ wd_752) (fun _ h9 => h9) rfl dc_Mo_integer_203 ?_
                    refine kb_if_ne hx hb dc_Mo_integer_206 rfl (fun hc206 => ?_) (fun hc206 => ?_)
                    · exact absurd hc206 (by decide)
                    · refine lv_iconst (v := nI 0) hx hb dc_Mo_integer_209 (by decide +kernel) ?_
                      refine lv_goto hx hb dc_Mo_integer_210 rfl ?_
                      exact kw_iret hx hb hr hlocks hP hD hS dc_Mo_integer_223 (by rw [hpi]; rfl) (by rw [hpi]; rfl)
                  · exact absurd hc167 (by decide)
                · exact absurd hc104 (by decide)
            · refine lv_aload_n hx hb dc_Mo_integer_67 rfl (lv_at hl 3 rfl) ?_
              refine va_get (ci := 10) (v := .int (nI mto)) (C := rn_Mo) (T := fd_Mo) (N := 36) hx hb hts in_Mo hown hK hP 0 rfl rfl 5 (by decide) (hts _ wd_751) (fun _ h9 => h9) rfl dc_Mo_integer_68 ?_
              refine lv_aload_n hx hb dc_Mo_integer_71 rfl (lv_at hl 3 rfl) ?_
              refine va_get (ci := 10) (v := .int (nI mfr)) (C := rn_Mo) (T := fd_Mo) (N := 36) hx hb hts in_Mo hown hK hP 0 rfl rfl 4 (by decide) (hts _ wd_750) (fun _ h9 => h9) rfl dc_Mo_integer_72 ?_
              refine kn_isub hx hb (by omega) dc_Mo_integer_75 ?_
              refine lv_iconst (v := nI 3) hx hb dc_Mo_integer_76 (by decide +kernel) ?_
              refine kn_icmp_gt hx hb (by omega) (by omega) dc_Mo_integer_77 rfl (fun hc77 => ?_) (fun hc77 => ?_)
              · refine lv_iconst (v := nI 0) hx hb dc_Mo_integer_84 (by decide +kernel) ?_
                refine kn_top (y := kb_i false) (by decide +kernel) ?_
                refine va_put (ci := 10) (v := .int (kb_i false)) (ty := .boolean) (C := rn_Mo) (T := fd_Mo) (N := 36) hx hb hts in_Mo ty_Mo tk_Mo nm_Mo hown hK hP hD hS 0 rfl rfl 6 (by decide) (hts _ wd_752) (fun _ h9 => h9) rfl (by decide +kernel) (kb_nar _) (kb_fit _) (Nat.le_of_ble_eq_true rfl) dc_Mo_integer_85 (fun H locs hP hD hS => ?_)
                have hP : va_P D kc_l [mo_c o mth mty x0 mat mfr mto false mrd x1 x2 x3 mhf mhp mcl mck mba mct x4 x5 x6 x7 x8 mst x9 x10 x11 x12 mtr mrs x13 x14 x15 x16 mwr x17 mfo, ar_n cI x0 250 t] H := hP
                have hD : va_D A [mo_c o mth mty x0 mat mfr mto false mrd x1 x2 x3 mhf mhp mcl mck mba mct x4 x5 x6 x7 x8 mst x9 x10 x11 x12 mtr mrs x13 x14 x15 x16 mwr x17 mfo, ar_n cI x0 250 t] := hD
                refine lv_iload_n hx hb dc_Mo_integer_88 rfl (lv_at hl 1 rfl) ?_
                refine lv_istore (lv' := [(4, .int (nI (mfr + 1))), (3, .int (nI 0)), (2, .int (nI (mfr + 1))), (1, .int (nI 1)), (0, .ref o)]) hx hb dc_Mo_integer_89 hl (by decide) rfl (fun ls hl => ?_)
                refine lv_iload hx hb dc_Mo_integer_91 (lv_at hl 0 rfl) ?_
                refine lv_aload_n hx hb dc_Mo_integer_93 rfl (lv_at hl 4 rfl) ?_
                refine va_get (ci := 10) (v := .int (nI mto)) (C := rn_Mo) (T := fd_Mo) (N := 36) hx hb hts in_Mo hown hK hP 0 rfl rfl 5 (by decide) (hts _ wd_751) (fun _ h9 => h9) rfl dc_Mo_integer_94 ?_
                refine kn_icmp_ge hx hb (by omega) (by omega) dc_Mo_integer_97 rfl (fun hc97 => ?_) (fun hc97 => ?_)
                · refine lv_aload_n hx hb dc_Mo_integer_162 rfl (lv_at hl 4 rfl) ?_
                  refine lv_aload_n hx hb dc_Mo_integer_163 rfl (lv_at hl 4 rfl) ?_
                  refine va_get (ci := 10) (v := .int (kb_i false)) (C := rn_Mo) (T := fd_Mo) (N := 36) hx hb hts in_Mo hown hK hP 0 rfl rfl 6 (by decide) (hts _ wd_752) (fun _ h9 => h9) rfl dc_Mo_integer_164 ?_
                  refine kb_if_eq hx hb dc_Mo_integer_167 rfl (fun hc167 => ?_) (fun hc167 => ?_)
                  · refine lv_iconst (v := nI 0) hx hb dc_Mo_integer_198 (by decide +kernel) ?_
                    have hpi : pt_int t mfr mto = none := by rw [pi_n hneg, if_pos (Or.inr (Or.inl (by omega)))]
                    refine kn_top (y := kb_i false) (by decide +kernel) ?_
                    refine va_put (ci := 10) (v := .int (kb_i false)) (ty := .boolean) (C := rn_Mo) (T := fd_Mo) (N := 36) hx hb hts in_Mo ty_Mo tk_Mo nm_Mo hown hK hP hD hS 0 rfl rfl 6 (by decide) (hts _ wd_752) (fun _ h9 => h9) rfl (by decide +kernel) (kb_nar _) (kb_fit _) (Nat.le_of_ble_eq_true rfl) dc_Mo_integer_199 (fun H locs hP hD hS => ?_)
                    have hP : va_P D kc_l [mo_c o mth mty x0 mat mfr mto false mrd x1 x2 x3 mhf mhp mcl mck mba mct x4 x5 x6 x7 x8 mst x9 x10 x11 x12 mtr mrs x13 x14 x15 x16 mwr x17 mfo, ar_n cI x0 250 t] H := hP
                    have hD : va_D A [mo_c o mth mty x0 mat mfr mto false mrd x1 x2 x3 mhf mhp mcl mck mba mct x4 x5 x6 x7 x8 mst x9 x10 x11 x12 mtr mrs x13 x14 x15 x16 mwr x17 mfo, ar_n cI x0 250 t] := hD
                    refine lv_aload_n hx hb dc_Mo_integer_202 rfl (lv_at hl 4 rfl) ?_
                    refine va_get (ci := 10) (v := .int (kb_i false)) (C := rn_Mo) (T := fd_Mo) (N := 36) hx hb hts in_Mo hown hK hP 0 rfl rfl 6 (by decide) (hts _ wd_752) (fun _ h9 => h9) rfl dc_Mo_integer_203 ?_
                    refine kb_if_ne hx hb dc_Mo_integer_206 rfl (fun hc206 => ?_) (fun hc206 => ?_)
                    · exact absurd hc206 (by decide)
                    · refine lv_iconst (v := nI 0) hx hb dc_Mo_integer_209 (by decide +kernel) ?_
                      refine lv_goto hx hb dc_Mo_integer_210 rfl ?_
                      exact kw_iret hx hb hr hlocks hP hD hS dc_Mo_integer_223 (by rw [hpi]; rfl) (by rw [hpi]; rfl)
                  · exact absurd hc167 (by decide)
                · refine lv_aload_n hx hb dc_Mo_integer_100 rfl (lv_at hl 4 rfl) ?_
                  refine va_get (ci := 10) (v := .int (kb_i false)) (C := rn_Mo) (T := fd_Mo) (N := 36) hx hb hts in_Mo hown hK hP 0 rfl rfl 6 (by decide) (hts _ wd_752) (fun _ h9 => h9) rfl dc_Mo_integer_101 ?_
                  refine kb_if_eq hx hb dc_Mo_integer_104 rfl (fun hc104 => ?_) (fun hc104 => ?_)
                  · refine lv_aload_n hx hb dc_Mo_integer_162 rfl (lv_at hl 4 rfl) ?_
                    refine lv_aload_n hx hb dc_Mo_integer_163 rfl (lv_at hl 4 rfl) ?_
                    refine va_get (ci := 10) (v := .int (kb_i false)) (C := rn_Mo) (T := fd_Mo) (N := 36) hx hb hts in_Mo hown hK hP 0 rfl rfl 6 (by decide) (hts _ wd_752) (fun _ h9 => h9) rfl dc_Mo_integer_164 ?_
                    refine kb_if_eq hx hb dc_Mo_integer_167 rfl (fun hc167 => ?_) (fun hc167 => ?_)
                    · refine lv_iconst (v := nI 0) hx hb dc_Mo_integer_198 (by decide +kernel) ?_
                      have hpi : pt_int t mfr mto = none := by rw [pi_n hneg, if_pos (Or.inr (Or.inl (by omega)))]
                      refine kn_top (y := kb_i false) (by decide +kernel) ?_
                      refine va_put (ci := 10) (v := .int (kb_i false)) (ty := .boolean) (C := rn_Mo) (T := fd_Mo) (N := 36) hx hb hts in_Mo ty_Mo tk_Mo nm_Mo hown hK hP hD hS 0 rfl rfl 6 (by decide) (hts _ wd_752) (fun _ h9 => h9) rfl (by decide +kernel) (kb_nar _) (kb_fit _) (Nat.le_of_ble_eq_true rfl) dc_Mo_integer_199 (fun H locs hP hD hS => ?_)
                      have hP : va_P D kc_l [mo_c o mth mty x0 mat mfr mto false mrd x1 x2 x3 mhf mhp mcl mck mba mct x4 x5 x6 x7 x8 mst x9 x10 x11 x12 mtr mrs x13 x14 x15 x16 mwr x17 mfo, ar_n cI x0 250 t] H := hP
                      have hD : va_D A [mo_c o mth mty x0 mat mfr mto false mrd x1 x2 x3 mhf mhp mcl mck mba mct x4 x5 x6 x7 x8 mst x9 x10 x11 x12 mtr mrs x13 x14 x15 x16 mwr x17 mfo, ar_n cI x0 250 t] := hD
                      refine lv_aload_n hx hb dc_Mo_integer_202 rfl (lv_at hl 4 rfl) ?_
                      refine va_get (ci := 10) (v := .int (kb_i false)) (C := rn_Mo) (T := fd_Mo) (N := 36) hx hb hts in_Mo hown hK hP 0 rfl rfl 6 (by decide) (hts _ wd_752) (fun _ h9 => h9) rfl dc_Mo_integer_203 ?_
                      refine kb_if_ne hx hb dc_Mo_integer_206 rfl (fun hc206 => ?_) (fun hc206 => ?_)
                      · exact absurd hc206 (by decide)
                      · refine lv_iconst (v := nI 0) hx hb dc_Mo_integer_209 (by decide +kernel) ?_
                        refine lv_goto hx hb dc_Mo_integer_210 rfl ?_
                        exact kw_iret hx hb hr hlocks hP hD hS dc_Mo_integer_223 (by rw [hpi]; rfl) (by rw [hpi]; rfl)
                    · exact absurd hc167 (by decide)
                  · exact absurd hc104 (by decide)
              · refine lv_iconst (v := nI 1) hx hb dc_Mo_integer_80 (by decide +kernel) ?_
                refine lv_goto hx hb dc_Mo_integer_81 rfl ?_
                refine kn_top (y := kb_i true) (by decide +kernel) ?_
                refine va_put (ci := 10) (v := .int (kb_i true)) (ty := .boolean) (C := rn_Mo) (T := fd_Mo) (N := 36) hx hb hts in_Mo ty_Mo tk_Mo nm_Mo hown hK hP hD hS 0 rfl rfl 6 (by decide) (hts _ wd_752) (fun _ h9 => h9) rfl (by decide +kernel) (kb_nar _) (kb_fit _) (Nat.le_of_ble_eq_true rfl) dc_Mo_integer_85 (fun H locs hP hD hS => ?_)
                have hP : va_P D kc_l [mo_c o mth mty x0 mat mfr mto true mrd x1 x2 x3 mhf mhp mcl mck mba mct x4 x5 x6 x7 x8 mst x9 x10 x11 x12 mtr mrs x13 x14 x15 x16 mwr x17 mfo, ar_n cI x0 250 t] H := hP
                have hD : va_D A [mo_c o mth mty x0 mat mfr mto true mrd x1 x2 x3 mhf mhp mcl mck mba mct x4 x5 x6 x7 x8 mst x9 x10 x11 x12 mtr mrs x13 x14 x15 x16 mwr x17 mfo, ar_n cI x0 250 t] := hD
                refine lv_iload_n hx hb dc_Mo_integer_88 rfl (lv_at hl 1 rfl) ?_
                refine lv_istore (lv' := [(4, .int (nI (mfr + 1))), (3, .int (nI 0)), (2, .int (nI (mfr + 1))), (1, .int (nI 1)), (0, .ref o)]) hx hb dc_Mo_integer_89 hl (by decide) rfl (fun ls hl => ?_)
                have lp_91 : ∀ (K : Nat) (i : Nat) (v : Nat) (H : Heap) (locs : List Loc) (ls : Array Slot), mto - i < K → va_P D kc_l [mo_c o mth mty x0 mat mfr mto true mrd x1 x2 x3 mhf mhp mcl mck mba mct x4 x5 x6 x7 x8 mst x9 x10 x11 x12 mtr mrs x13 x14 x15 x16 mwr x17 mfo, ar_n cI x0 250 t] H → va_D A [mo_c o mth mty x0 mat mfr mto true mrd x1 x2 x3 mhf mhp mcl mck mba mct x4 x5 x6 x7 x8 mst x9 x10 x11 x12 mtr mrs x13 x14 x15 x16 mwr x17 mfo, ar_n cI x0 250 t] → va_S A s.heap H locs → lv_has ls 5 [(4, .int (nI i)), (3, .int (nI v)), (2, .int (nI (mfr + 1))), (1, .int (nI 1)), (0, .ref o)] → (pt_dg t (mto - i) i v = pt_dg t (mto - (mfr + 1)) (mfr + 1) 0) → (mfr + 1 ≤ i ∧ i ≤ mto) → W p l e ({ frames := 0, cells := 0, slots := 0, locals := 0 } : Room) s m ([.ref o] : List Value).toArray below meth c H locs 0 0 (MQ below (kw_q (some (.int ((pt_int t mfr mto).getD 0))) D kc_l [mo_c o mth mty x0 mat mfr mto ((pt_int t mfr mto).isSome) mrd x1 x2 x3 mhf mhp mcl mck mba mct x4 x5 x6 x7 x8 mst x9 x10 x11 x12 mtr mrs x13 x14 x15 x16 mwr x17 mfo, ar_n cI x0 250 t] A) ([.ref o] : List Value).toArray s 0 0 A) (F0 m 91 ls []) := by
                  intro K
                  induction K with
                  | zero =>
                    intro i v H locs ls hk
                    exact absurd hk (Nat.not_lt_zero _)
                  | succ K ih_91 =>
                    intro i v H locs ls hk hP hD hS hl h1 h2
                    refine lv_iload hx hb dc_Mo_integer_91 (lv_at hl 0 rfl) ?_
                    refine lv_aload_n hx hb dc_Mo_integer_93 rfl (lv_at hl 4 rfl) ?_
                    refine va_get (ci := 10) (v := .int (nI mto)) (C := rn_Mo) (T := fd_Mo) (N := 36) hx hb hts in_Mo hown hK hP 0 rfl rfl 5 (by decide) (hts _ wd_751) (fun _ h9 => h9) rfl dc_Mo_integer_94 ?_
                    refine kn_icmp_ge hx hb (by omega) (by omega) dc_Mo_integer_97 rfl (fun hc97 => ?_) (fun hc97 => ?_)
                    · refine lv_aload_n hx hb dc_Mo_integer_162 rfl (lv_at hl 4 rfl) ?_
                      refine lv_aload_n hx hb dc_Mo_integer_163 rfl (lv_at hl 4 rfl) ?_
                      refine va_get (ci := 10) (v := .int (kb_i true)) (C := rn_Mo) (T := fd_Mo) (N := 36) hx hb hts in_Mo hown hK hP 0 rfl rfl 6 (by decide) (hts _ wd_752) (fun _ h9 => h9) rfl dc_Mo_integer_164 ?_
                      refine kb_if_eq hx hb dc_Mo_integer_167 rfl (fun hc167 => ?_) (fun hc167 => ?_)
                      · exact absurd hc167 (by decide)
                      · refine lv_aload_n hx hb dc_Mo_integer_170 rfl (lv_at hl 4 rfl) ?_
                        refine va_get (ci := 10) (v := .ref x0) (C := rn_Mo) (T := fd_Mo) (N := 36) hx hb hts in_Mo hown hK hP 0 rfl rfl 2 (by decide) (hts _ wd_748) (fun _ h9 => h9) rfl dc_Mo_integer_171 ?_
                        refine lv_iload_n hx hb dc_Mo_integer_174 rfl (lv_at hl 2 rfl) ?_
                        refine ka_nald (t := t) hx hb hK hP 1 0 rfl rfl (j := mfr + 1) (by omega) (by omega) dc_Mo_integer_175 ?_
                        refine lv_bipush (v := nI 48) hx hb dc_Mo_integer_176 (by decide +kernel) ?_
                        refine kn_icmp_ne hx hb (Nat.lt_trans (ht (mfr + 1)) (by decide)) (by omega) dc_Mo_integer_178 rfl (fun hc178 => ?_) (fun hc178 => ?_)
                        · refine lv_iconst (v := nI 1) hx hb dc_Mo_integer_194 (by decide +kernel) ?_
                          refine lv_goto hx hb dc_Mo_integer_195 rfl ?_
                          have hpi : pt_int t mfr mto = some (-nI v) := by rw [pi_n hneg, if_neg (fun q => by omega), ← h1, dg_en (by omega)]; rfl
                          refine kn_top (y := kb_i true) (by decide +kernel) ?_
                          refine va_put (ci := 10) (v := .int (kb_i true)) (ty := .boolean) (C := rn_Mo) (T := fd_Mo) (N := 36) hx hb hts in_Mo ty_Mo tk_Mo nm_Mo hown hK hP hD hS 0 rfl rfl 6 (by decide) (hts _ wd_752) (fun _ h9 => h9) rfl (by decide +kernel) (kb_nar _) (kb_fit _) (Nat.le_of_ble_eq_true rfl) dc_Mo_integer_199 (fun H locs hP hD hS => ?_)
                          have hP : va_P D kc_l [mo_c o mth mty x0 mat mfr mto true mrd x1 x2 x3 mhf mhp mcl mck mba mct x4 x5 x6 x7 x8 mst x9 x10 x11 x12 mtr mrs x13 x14 x15 x16 mwr x17 mfo, ar_n cI x0 250 t] H := hP
                          have hD : va_D A [mo_c o mth mty x0 mat mfr mto true mrd x1 x2 x3 mhf mhp mcl mck mba mct x4 x5 x6 x7 x8 mst x9 x10 x11 x12 mtr mrs x13 x14 x15 x16 mwr x17 mfo, ar_n cI x0 250 t] := hD
                          refine lv_aload_n hx hb dc_Mo_integer_202 rfl (lv_at hl 4 rfl) ?_
                          refine va_get (ci := 10) (v := .int (kb_i true)) (C := rn_Mo) (T := fd_Mo) (N := 36) hx hb hts in_Mo hown hK hP 0 rfl rfl 6 (by decide) (hts _ wd_752) (fun _ h9 => h9) rfl dc_Mo_integer_203 ?_
                          refine kb_if_ne hx hb dc_Mo_integer_206 rfl (fun hc206 => ?_) (fun hc206 => ?_)
                          · refine lv_iload_n hx hb dc_Mo_integer_213 rfl (lv_at hl 3 rfl) ?_
                            refine kn_if_eq hx hb (by omega) dc_Mo_integer_214 rfl (fun hc214 => ?_) (fun hc214 => ?_)
                            · exfalso; omega
                            · refine lv_iload_n hx hb dc_Mo_integer_217 rfl (lv_at hl 1 rfl) ?_
                              refine lv_ineg hx hb dc_Mo_integer_218 ?_
                              refine lv_goto hx hb dc_Mo_integer_219 rfl ?_
                              exact kw_iret hx hb hr hlocks hP hD hS dc_Mo_integer_223 (by rw [hpi]; rfl) (by rw [hpi]; rfl)
                          · exact absurd hc206 (by decide)
                        · refine lv_aload_n hx hb dc_Mo_integer_181 rfl (lv_at hl 4 rfl) ?_
                          refine va_get (ci := 10) (v := .int (nI mto)) (C := rn_Mo) (T := fd_Mo) (N := 36) hx hb hts in_Mo hown hK hP 0 rfl rfl 5 (by decide) (hts _ wd_751) (fun _ h9 => h9) rfl dc_Mo_integer_182 ?_
                          refine lv_aload_n hx hb dc_Mo_integer_185 rfl (lv_at hl 4 rfl) ?_
                          refine va_get (ci := 10) (v := .int (nI mfr)) (C := rn_Mo) (T := fd_Mo) (N := 36) hx hb hts in_Mo hown hK hP 0 rfl rfl 4 (by decide) (hts _ wd_750) (fun _ h9 => h9) rfl dc_Mo_integer_186 ?_
                          refine kn_isub hx hb (by omega) dc_Mo_integer_189 ?_
                          refine lv_iconst (v := nI 1) hx hb dc_Mo_integer_190 (by decide +kernel) ?_
                          refine kn_icmp_ne hx hb (by omega) (by omega) dc_Mo_integer_191 rfl (fun hc191 => ?_) (fun hc191 => ?_)
                          · refine lv_iconst (v := nI 0) hx hb dc_Mo_integer_198 (by decide +kernel) ?_
                            have hpi : pt_int t mfr mto = none := by rw [pi_n hneg, if_pos (Or.inr (Or.inr (hc178)))]
                            refine kn_top (y := kb_i false) (by decide +kernel) ?_
                            refine va_put (ci := 10) (v := .int (kb_i false)) (ty := .boolean) (C := rn_Mo) (T := fd_Mo) (N := 36) hx hb hts in_Mo ty_Mo tk_Mo nm_Mo hown hK hP hD hS 0 rfl rfl 6 (by decide) (hts _ wd_752) (fun _ h9 => h9) rfl (by decide +kernel) (kb_nar _) (kb_fit _) (Nat.le_of_ble_eq_true rfl) dc_Mo_integer_199 (fun H locs hP hD hS => ?_)
                            have hP : va_P D kc_l [mo_c o mth mty x0 mat mfr mto false mrd x1 x2 x3 mhf mhp mcl mck mba mct x4 x5 x6 x7 x8 mst x9 x10 x11 x12 mtr mrs x13 x14 x15 x16 mwr x17 mfo, ar_n cI x0 250 t] H := hP
                            have hD : va_D A [mo_c o mth mty x0 mat mfr mto false mrd x1 x2 x3 mhf mhp mcl mck mba mct x4 x5 x6 x7 x8 mst x9 x10 x11 x12 mtr mrs x13 x14 x15 x16 mwr x17 mfo, ar_n cI x0 250 t] := hD
                            refine lv_aload_n hx hb dc_Mo_integer_202 rfl (lv_at hl 4 rfl) ?_
                            refine va_get (ci := 10) (v := .int (kb_i false)) (C := rn_Mo) (T := fd_Mo) (N := 36) hx hb hts in_Mo hown hK hP 0 rfl rfl 6 (by decide) (hts _ wd_752) (fun _ h9 => h9) rfl dc_Mo_integer_203 ?_
                            refine kb_if_ne hx hb dc_Mo_integer_206 rfl (fun hc206 => ?_) (fun hc206 => ?_)
                            · exact absurd hc206 (by decide)
                            · refine lv_iconst (v := nI 0) hx hb dc_Mo_integer_209 (by decide +kernel) ?_
                              refine lv_goto hx hb dc_Mo_integer_210 rfl ?_
                              exact kw_iret hx hb hr hlocks hP hD hS dc_Mo_integer_223 (by rw [hpi]; rfl) (by rw [hpi]; rfl)
                          · exfalso; omega
                    · refine lv_aload_n hx hb dc_Mo_integer_100 rfl (lv_at hl 4 rfl) ?_
                      refine va_get (ci := 10) (v := .int (kb_i true)) (C := rn_Mo) (T := fd_Mo) (N := 36) hx hb hts in_Mo hown hK hP 0 rfl rfl 6 (by decide) (hts _ wd_752) (fun _ h9 => h9) rfl dc_Mo_integer_101 ?_
                      refine kb_if_eq hx hb dc_Mo_integer_104 rfl (fun hc104 => ?_) (fun hc104 => ?_)
                      · exact absurd hc104 (by decide)
                      · refine lv_aload_n hx hb dc_Mo_integer_107 rfl (lv_at hl 4 rfl) ?_
                        refine lv_aload_n hx hb dc_Mo_integer_108 rfl (lv_at hl 4 rfl) ?_
                        refine va_get (ci := 10) (v := .ref x0) (C := rn_Mo) (T := fd_Mo) (N := 36) hx hb hts in_Mo hown hK hP 0 rfl rfl 2 (by decide) (hts _ wd_748) (fun _ h9 => h9) rfl dc_Mo_integer_109 ?_
                        refine lv_iload hx hb dc_Mo_integer_112 (lv_at hl 0 rfl) ?_
                        refine ka_nald (t := t) hx hb hK hP 1 0 rfl rfl (j := i) (by omega) (by omega) dc_Mo_integer_114 ?_
                        refine lv_bipush (v := nI 48) hx hb dc_Mo_integer_115 (by decide +kernel) ?_
                        refine kn_icmp_lt hx hb (Nat.lt_trans (ht i) (by decide)) (by omega) dc_Mo_integer_117 rfl (fun hc117 => ?_) (fun hc117 => ?_)
                        · refine lv_iconst (v := nI 0) hx hb dc_Mo_integer_136 (by decide +kernel) ?_
                          refine kn_top (y := kb_i false) (by decide +kernel) ?_
                          refine va_put (ci := 10) (v := .int (kb_i false)) (ty := .boolean) (C := rn_Mo) (T := fd_Mo) (N := 36) hx hb hts in_Mo ty_Mo tk_Mo nm_Mo hown hK hP hD hS 0 rfl rfl 6 (by decide) (hts _ wd_752) (fun _ h9 => h9) rfl (by decide +kernel) (kb_nar _) (kb_fit _) (Nat.le_of_ble_eq_true rfl) dc_Mo_integer_137 (fun H locs hP hD hS => ?_)
                          have hP : va_P D kc_l [mo_c o mth mty x0 mat mfr mto false mrd x1 x2 x3 mhf mhp mcl mck mba mct x4 x5 x6 x7 x8 mst x9 x10 x11 x12 mtr mrs x13 x14 x15 x16 mwr x17 mfo, ar_n cI x0 250 t] H := hP
                          have hD : va_D A [mo_c o mth mty x0 mat mfr mto false mrd x1 x2 x3 mhf mhp mcl mck mba mct x4 x5 x6 x7 x8 mst x9 x10 x11 x12 mtr mrs x13 x14 x15 x16 mwr x17 mfo, ar_n cI x0 250 t] := hD
                          refine lv_bipush (v := nI 10) hx hb dc_Mo_integer_140 (by decide +kernel) ?_
                          refine lv_iload_n hx hb dc_Mo_integer_142 rfl (lv_at hl 1 rfl) ?_
                          refine kn_imul hx hb dc_Mo_integer_143 ?_
                          refine lv_aload_n hx hb dc_Mo_integer_144 rfl (lv_at hl 4 rfl) ?_
                          refine va_get (ci := 10) (v := .ref x0) (C := rn_Mo) (T := fd_Mo) (N := 36) hx hb hts in_Mo hown hK hP 0 rfl rfl 2 (by decide) (hts _ wd_748) (fun _ h9 => h9) rfl dc_Mo_integer_145 ?_
                          refine lv_iload hx hb dc_Mo_integer_148 (lv_at hl 0 rfl) ?_
                          refine ka_nald (t := t) hx hb hK hP 1 0 rfl rfl (j := i) (by omega) (by omega) dc_Mo_integer_150 ?_
                          refine kn_iadd hx hb dc_Mo_integer_151 ?_
                          refine lv_bipush (v := nI 48) hx hb dc_Mo_integer_152 (by decide +kernel) ?_
                          refine lv_isub hx hb dc_Mo_integer_154 ?_
                          refine lv_istore_n (lv' := [(3, .int ((nI ((10 * v) + (t i))) - (nI 48))), (4, .int (nI i)), (2, .int (nI (mfr + 1))), (1, .int (nI 1)), (0, .ref o)]) hx hb dc_Mo_integer_155 rfl hl (by decide) rfl (fun ls hl => ?_)
                          refine lv_iinc (k := 1) (v := nI (i + 1)) (lv' := [(4, .int (nI (i + 1))), (3, .int ((nI ((10 * v) + (t i))) - (nI 48))), (2, .int (nI (mfr + 1))), (1, .int (nI 1)), (0, .ref o)]) hx hb dc_Mo_integer_156 hl rfl (nI_1 _) (by decide) rfl (fun ls hl => ?_)
                          refine lv_goto hx hb dc_Mo_integer_159 rfl ?_
                          refine lv_iload hx hb dc_Mo_integer_91 (lv_at hl 0 rfl) ?_
                          refine lv_aload_n hx hb dc_Mo_integer_93 rfl (lv_at hl 4 rfl) ?_
                          refine va_get (ci := 10) (v := .int (nI mto)) (C := rn_Mo) (T := fd_Mo) (N := 36) hx hb hts in_Mo hown hK hP 0 rfl rfl 5 (by decide) (hts _ wd_751) (fun _ h9 => h9) rfl dc_Mo_integer_94 ?_
                          refine kn_icmp_ge hx hb (by omega) (by omega) dc_Mo_integer_97 rfl (fun hc97 => ?_) (fun hc97 => ?_)
                          · refine lv_aload_n hx hb dc_Mo_integer_162 rfl (lv_at hl 4 rfl) ?_
                            refine lv_aload_n hx hb dc_Mo_integer_163 rfl (lv_at hl 4 rfl) ?_
                            refine va_get (ci := 10) (v := .int (kb_i false)) (C := rn_Mo) (T := fd_Mo) (N := 36) hx hb hts in_Mo hown hK hP 0 rfl rfl 6 (by decide) (hts _ wd_752) (fun _ h9 => h9) rfl dc_Mo_integer_164 ?_
                            refine kb_if_eq hx hb dc_Mo_integer_167 rfl (fun hc167 => ?_) (fun hc167 => ?_)
                            · refine lv_iconst (v := nI 0) hx hb dc_Mo_integer_198 (by decide +kernel) ?_
                              have hpi : pt_int t mfr mto = none := by rw [pi_n hneg, ← h1, dg_no (by omega) (fun q => by omega)]; split <;> rfl
                              refine kn_top (y := kb_i false) (by decide +kernel) ?_
                              refine va_put (ci := 10) (v := .int (kb_i false)) (ty := .boolean) (C := rn_Mo) (T := fd_Mo) (N := 36) hx hb hts in_Mo ty_Mo tk_Mo nm_Mo hown hK hP hD hS 0 rfl rfl 6 (by decide) (hts _ wd_752) (fun _ h9 => h9) rfl (by decide +kernel) (kb_nar _) (kb_fit _) (Nat.le_of_ble_eq_true rfl) dc_Mo_integer_199 (fun H locs hP hD hS => ?_)
                              have hP : va_P D kc_l [mo_c o mth mty x0 mat mfr mto false mrd x1 x2 x3 mhf mhp mcl mck mba mct x4 x5 x6 x7 x8 mst x9 x10 x11 x12 mtr mrs x13 x14 x15 x16 mwr x17 mfo, ar_n cI x0 250 t] H := hP
                              have hD : va_D A [mo_c o mth mty x0 mat mfr mto false mrd x1 x2 x3 mhf mhp mcl mck mba mct x4 x5 x6 x7 x8 mst x9 x10 x11 x12 mtr mrs x13 x14 x15 x16 mwr x17 mfo, ar_n cI x0 250 t] := hD
                              refine lv_aload_n hx hb dc_Mo_integer_202 rfl (lv_at hl 4 rfl) ?_
                              refine va_get (ci := 10) (v := .int (kb_i false)) (C := rn_Mo) (T := fd_Mo) (N := 36) hx hb hts in_Mo hown hK hP 0 rfl rfl 6 (by decide) (hts _ wd_752) (fun _ h9 => h9) rfl dc_Mo_integer_203 ?_
                              refine kb_if_ne hx hb dc_Mo_integer_206 rfl (fun hc206 => ?_) (fun hc206 => ?_)
                              · exact absurd hc206 (by decide)
                              · refine lv_iconst (v := nI 0) hx hb dc_Mo_integer_209 (by decide +kernel) ?_
                                refine lv_goto hx hb dc_Mo_integer_210 rfl ?_
                                exact kw_iret hx hb hr hlocks hP hD hS dc_Mo_integer_223 (by rw [hpi]; rfl) (by rw [hpi]; rfl)
                            · exact absurd hc167 (by decide)
                          · refine lv_aload_n hx hb dc_Mo_integer_100 rfl (lv_at hl 4 rfl) ?_
                            refine va_get (ci := 10) (v := .int (kb_i false)) (C := rn_Mo) (T := fd_Mo) (N := 36) hx hb hts in_Mo hown hK hP 0 rfl rfl 6 (by decide) (hts _ wd_752) (fun _ h9 => h9) rfl dc_Mo_integer_101 ?_
                            refine kb_if_eq hx hb dc_Mo_integer_104 rfl (fun hc104 => ?_) (fun hc104 => ?_)
                            · refine lv_aload_n hx hb dc_Mo_integer_162 rfl (lv_at hl 4 rfl) ?_
                              refine lv_aload_n hx hb dc_Mo_integer_163 rfl (lv_at hl 4 rfl) ?_
                              refine va_get (ci := 10) (v := .int (kb_i false)) (C := rn_Mo) (T := fd_Mo) (N := 36) hx hb hts in_Mo hown hK hP 0 rfl rfl 6 (by decide) (hts _ wd_752) (fun _ h9 => h9) rfl dc_Mo_integer_164 ?_
                              refine kb_if_eq hx hb dc_Mo_integer_167 rfl (fun hc167 => ?_) (fun hc167 => ?_)
                              · refine lv_iconst (v := nI 0) hx hb dc_Mo_integer_198 (by decide +kernel) ?_
                                have hpi : pt_int t mfr mto = none := by rw [pi_n hneg, ← h1, dg_no (by omega) (fun q => by omega)]; split <;> rfl
                                refine kn_top (y := kb_i false) (by decide +kernel) ?_
                                refine va_put (ci := 10) (v := .int (kb_i false)) (ty := .boolean) (C := rn_Mo) (T := fd_Mo) (N := 36) hx hb hts in_Mo ty_Mo tk_Mo nm_Mo hown hK hP hD hS 0 rfl rfl 6 (by decide) (hts _ wd_752) (fun _ h9 => h9) rfl (by decide +kernel) (kb_nar _) (kb_fit _) (Nat.le_of_ble_eq_true rfl) dc_Mo_integer_199 (fun H locs hP hD hS => ?_)
                                have hP : va_P D kc_l [mo_c o mth mty x0 mat mfr mto false mrd x1 x2 x3 mhf mhp mcl mck mba mct x4 x5 x6 x7 x8 mst x9 x10 x11 x12 mtr mrs x13 x14 x15 x16 mwr x17 mfo, ar_n cI x0 250 t] H := hP
                                have hD : va_D A [mo_c o mth mty x0 mat mfr mto false mrd x1 x2 x3 mhf mhp mcl mck mba mct x4 x5 x6 x7 x8 mst x9 x10 x11 x12 mtr mrs x13 x14 x15 x16 mwr x17 mfo, ar_n cI x0 250 t] := hD
                                refine lv_aload_n hx hb dc_Mo_integer_202 rfl (lv_at hl 4 rfl) ?_
                                refine va_get (ci := 10) (v := .int (kb_i false)) (C := rn_Mo) (T := fd_Mo) (N := 36) hx hb hts in_Mo hown hK hP 0 rfl rfl 6 (by decide) (hts _ wd_752) (fun _ h9 => h9) rfl dc_Mo_integer_203 ?_
                                refine kb_if_ne hx hb dc_Mo_integer_206 rfl (fun hc206 => ?_) (fun hc206 => ?_)
                                · exact absurd hc206 (by decide)
                                · refine lv_iconst (v := nI 0) hx hb dc_Mo_integer_209 (by decide +kernel) ?_
                                  refine lv_goto hx hb dc_Mo_integer_210 rfl ?_
                                  exact kw_iret hx hb hr hlocks hP hD hS dc_Mo_integer_223 (by rw [hpi]; rfl) (by rw [hpi]; rfl)
                              · exact absurd hc167 (by decide)
                            · exact absurd hc104 (by decide)
                        · refine lv_aload_n hx hb dc_Mo_integer_120 rfl (lv_at hl 4 rfl) ?_
                          refine va_get (ci := 10) (v := .ref x0) (C := rn_Mo) (T := fd_Mo) (N := 36) hx hb hts in_Mo hown hK hP 0 rfl rfl 2 (by decide) (hts _ wd_748) (fun _ h9 => h9) rfl dc_Mo_integer_121 ?_
                          refine lv_iload hx hb dc_Mo_integer_124 (lv_at hl 0 rfl) ?_
                          refine ka_nald (t := t) hx hb hK hP 1 0 rfl rfl (j := i) (by omega) (by omega) dc_Mo_integer_126 ?_
                          refine lv_bipush (v := nI 57) hx hb dc_Mo_integer_127 (by decide +kernel) ?_
                          refine kn_icmp_gt hx hb (Nat.lt_trans (ht i) (by decide)) (by omega) dc_Mo_integer_129 rfl (fun hc129 => ?_) (fun hc129 => ?_)
                          · refine lv_iconst (v := nI 0) hx hb dc_Mo_integer_136 (by decide +kernel) ?_
                            refine kn_top (y := kb_i false) (by decide +kernel) ?_
                            refine va_put (ci := 10) (v := .int (kb_i false)) (ty := .boolean) (C := rn_Mo) (T := fd_Mo) (N := 36) hx hb hts in_Mo ty_Mo tk_Mo nm_Mo hown hK hP hD hS 0 rfl rfl 6 (by decide) (hts _ wd_752) (fun _ h9 => h9) rfl (by decide +kernel) (kb_nar _) (kb_fit _) (Nat.le_of_ble_eq_true rfl) dc_Mo_integer_137 (fun H locs hP hD hS => ?_)
                            have hP : va_P D kc_l [mo_c o mth mty x0 mat mfr mto false mrd x1 x2 x3 mhf mhp mcl mck mba mct x4 x5 x6 x7 x8 mst x9 x10 x11 x12 mtr mrs x13 x14 x15 x16 mwr x17 mfo, ar_n cI x0 250 t] H := hP
                            have hD : va_D A [mo_c o mth mty x0 mat mfr mto false mrd x1 x2 x3 mhf mhp mcl mck mba mct x4 x5 x6 x7 x8 mst x9 x10 x11 x12 mtr mrs x13 x14 x15 x16 mwr x17 mfo, ar_n cI x0 250 t] := hD
                            refine lv_bipush (v := nI 10) hx hb dc_Mo_integer_140 (by decide +kernel) ?_
                            refine lv_iload_n hx hb dc_Mo_integer_142 rfl (lv_at hl 1 rfl) ?_
                            refine kn_imul hx hb dc_Mo_integer_143 ?_
                            refine lv_aload_n hx hb dc_Mo_integer_144 rfl (lv_at hl 4 rfl) ?_
                            refine va_get (ci := 10) (v := .ref x0) (C := rn_Mo) (T := fd_Mo) (N := 36) hx hb hts in_Mo hown hK hP 0 rfl rfl 2 (by decide) (hts _ wd_748) (fun _ h9 => h9) rfl dc_Mo_integer_145 ?_
                            refine lv_iload hx hb dc_Mo_integer_148 (lv_at hl 0 rfl) ?_
                            refine ka_nald (t := t) hx hb hK hP 1 0 rfl rfl (j := i) (by omega) (by omega) dc_Mo_integer_150 ?_
                            refine kn_iadd hx hb dc_Mo_integer_151 ?_
                            refine lv_bipush (v := nI 48) hx hb dc_Mo_integer_152 (by decide +kernel) ?_
                            refine lv_isub hx hb dc_Mo_integer_154 ?_
                            refine lv_istore_n (lv' := [(3, .int ((nI ((10 * v) + (t i))) - (nI 48))), (4, .int (nI i)), (2, .int (nI (mfr + 1))), (1, .int (nI 1)), (0, .ref o)]) hx hb dc_Mo_integer_155 rfl hl (by decide) rfl (fun ls hl => ?_)
                            refine lv_iinc (k := 1) (v := nI (i + 1)) (lv' := [(4, .int (nI (i + 1))), (3, .int ((nI ((10 * v) + (t i))) - (nI 48))), (2, .int (nI (mfr + 1))), (1, .int (nI 1)), (0, .ref o)]) hx hb dc_Mo_integer_156 hl rfl (nI_1 _) (by decide) rfl (fun ls hl => ?_)
                            refine lv_goto hx hb dc_Mo_integer_159 rfl ?_
                            refine lv_iload hx hb dc_Mo_integer_91 (lv_at hl 0 rfl) ?_
                            refine lv_aload_n hx hb dc_Mo_integer_93 rfl (lv_at hl 4 rfl) ?_
                            refine va_get (ci := 10) (v := .int (nI mto)) (C := rn_Mo) (T := fd_Mo) (N := 36) hx hb hts in_Mo hown hK hP 0 rfl rfl 5 (by decide) (hts _ wd_751) (fun _ h9 => h9) rfl dc_Mo_integer_94 ?_
                            refine kn_icmp_ge hx hb (by omega) (by omega) dc_Mo_integer_97 rfl (fun hc97 => ?_) (fun hc97 => ?_)
                            · refine lv_aload_n hx hb dc_Mo_integer_162 rfl (lv_at hl 4 rfl) ?_
                              refine lv_aload_n hx hb dc_Mo_integer_163 rfl (lv_at hl 4 rfl) ?_
                              refine va_get (ci := 10) (v := .int (kb_i false)) (C := rn_Mo) (T := fd_Mo) (N := 36) hx hb hts in_Mo hown hK hP 0 rfl rfl 6 (by decide) (hts _ wd_752) (fun _ h9 => h9) rfl dc_Mo_integer_164 ?_
                              refine kb_if_eq hx hb dc_Mo_integer_167 rfl (fun hc167 => ?_) (fun hc167 => ?_)
                              · refine lv_iconst (v := nI 0) hx hb dc_Mo_integer_198 (by decide +kernel) ?_
                                have hpi : pt_int t mfr mto = none := by rw [pi_n hneg, ← h1, dg_no (by omega) (fun q => by omega)]; split <;> rfl
                                refine kn_top (y := kb_i false) (by decide +kernel) ?_
                                refine va_put (ci := 10) (v := .int (kb_i false)) (ty := .boolean) (C := rn_Mo) (T := fd_Mo) (N := 36) hx hb hts in_Mo ty_Mo tk_Mo nm_Mo hown hK hP hD hS 0 rfl rfl 6 (by decide) (hts _ wd_752) (fun _ h9 => h9) rfl (by decide +kernel) (kb_nar _) (kb_fit _) (Nat.le_of_ble_eq_true rfl) dc_Mo_integer_199 (fun H locs hP hD hS => ?_)
                                have hP : va_P D kc_l [mo_c o mth mty x0 mat mfr mto false mrd x1 x2 x3 mhf mhp mcl mck mba mct x4 x5 x6 x7 x8 mst x9 x10 x11 x12 mtr mrs x13 x14 x15 x16 mwr x17 mfo, ar_n cI x0 250 t] H := hP
                                have hD : va_D A [mo_c o mth mty x0 mat mfr mto false mrd x1 x2 x3 mhf mhp mcl mck mba mct x4 x5 x6 x7 x8 mst x9 x10 x11 x12 mtr mrs x13 x14 x15 x16 mwr x17 mfo, ar_n cI x0 250 t] := hD
                                refine lv_aload_n hx hb dc_Mo_integer_202 rfl (lv_at hl 4 rfl) ?_
                                refine va_get (ci := 10) (v := .int (kb_i false)) (C := rn_Mo) (T := fd_Mo) (N := 36) hx hb hts in_Mo hown hK hP 0 rfl rfl 6 (by decide) (hts _ wd_752) (fun _ h9 => h9) rfl dc_Mo_integer_203 ?_
                                refine kb_if_ne hx hb dc_Mo_integer_206 rfl (fun hc206 => ?_) (fun hc206 => ?_)
                                · exact absurd hc206 (by decide)
                                · refine lv_iconst (v := nI 0) hx hb dc_Mo_integer_209 (by decide +kernel) ?_
                                  refine lv_goto hx hb dc_Mo_integer_210 rfl ?_
                                  exact kw_iret hx hb hr hlocks hP hD hS dc_Mo_integer_223 (by rw [hpi]; rfl) (by rw [hpi]; rfl)
                              · exact absurd hc167 (by decide)
                            · refine lv_aload_n hx hb dc_Mo_integer_100 rfl (lv_at hl 4 rfl) ?_
                              refine va_get (ci := 10) (v := .int (kb_i false)) (C := rn_Mo) (T := fd_Mo) (N := 36) hx hb hts in_Mo hown hK hP 0 rfl rfl 6 (by decide) (hts _ wd_752) (fun _ h9 => h9) rfl dc_Mo_integer_101 ?_
                              refine kb_if_eq hx hb dc_Mo_integer_104 rfl (fun hc104 => ?_) (fun hc104 => ?_)
                              · refine lv_aload_n hx hb dc_Mo_integer_162 rfl (lv_at hl 4 rfl) ?_
                                refine lv_aload_n hx hb dc_Mo_integer_163 rfl (lv_at hl 4 rfl) ?_
                                refine va_get (ci := 10) (v := .int (kb_i false)) (C := rn_Mo) (T := fd_Mo) (N := 36) hx hb hts in_Mo hown hK hP 0 rfl rfl 6 (by decide) (hts _ wd_752) (fun _ h9 => h9) rfl dc_Mo_integer_164 ?_
                                refine kb_if_eq hx hb dc_Mo_integer_167 rfl (fun hc167 => ?_) (fun hc167 => ?_)
                                · refine lv_iconst (v := nI 0) hx hb dc_Mo_integer_198 (by decide +kernel) ?_
                                  have hpi : pt_int t mfr mto = none := by rw [pi_n hneg, ← h1, dg_no (by omega) (fun q => by omega)]; split <;> rfl
                                  refine kn_top (y := kb_i false) (by decide +kernel) ?_
                                  refine va_put (ci := 10) (v := .int (kb_i false)) (ty := .boolean) (C := rn_Mo) (T := fd_Mo) (N := 36) hx hb hts in_Mo ty_Mo tk_Mo nm_Mo hown hK hP hD hS 0 rfl rfl 6 (by decide) (hts _ wd_752) (fun _ h9 => h9) rfl (by decide +kernel) (kb_nar _) (kb_fit _) (Nat.le_of_ble_eq_true rfl) dc_Mo_integer_199 (fun H locs hP hD hS => ?_)
                                  have hP : va_P D kc_l [mo_c o mth mty x0 mat mfr mto false mrd x1 x2 x3 mhf mhp mcl mck mba mct x4 x5 x6 x7 x8 mst x9 x10 x11 x12 mtr mrs x13 x14 x15 x16 mwr x17 mfo, ar_n cI x0 250 t] H := hP
                                  have hD : va_D A [mo_c o mth mty x0 mat mfr mto false mrd x1 x2 x3 mhf mhp mcl mck mba mct x4 x5 x6 x7 x8 mst x9 x10 x11 x12 mtr mrs x13 x14 x15 x16 mwr x17 mfo, ar_n cI x0 250 t] := hD
                                  refine lv_aload_n hx hb dc_Mo_integer_202 rfl (lv_at hl 4 rfl) ?_
                                  refine va_get (ci := 10) (v := .int (kb_i false)) (C := rn_Mo) (T := fd_Mo) (N := 36) hx hb hts in_Mo hown hK hP 0 rfl rfl 6 (by decide) (hts _ wd_752) (fun _ h9 => h9) rfl dc_Mo_integer_203 ?_
                                  refine kb_if_ne hx hb dc_Mo_integer_206 rfl (fun hc206 => ?_) (fun hc206 => ?_)
                                  · exact absurd hc206 (by decide)
                                  · refine lv_iconst (v := nI 0) hx hb dc_Mo_integer_209 (by decide +kernel) ?_
                                    refine lv_goto hx hb dc_Mo_integer_210 rfl ?_
                                    exact kw_iret hx hb hr hlocks hP hD hS dc_Mo_integer_223 (by rw [hpi]; rfl) (by rw [hpi]; rfl)
                                · exact absurd hc167 (by decide)
                              · exact absurd hc104 (by decide)
                          · refine lv_iconst (v := nI 1) hx hb dc_Mo_integer_132 (by decide +kernel) ?_
                            refine lv_goto hx hb dc_Mo_integer_133 rfl ?_
                            refine kn_top (y := kb_i true) (by decide +kernel) ?_
                            refine va_put (ci := 10) (v := .int (kb_i true)) (ty := .boolean) (C := rn_Mo) (T := fd_Mo) (N := 36) hx hb hts in_Mo ty_Mo tk_Mo nm_Mo hown hK hP hD hS 0 rfl rfl 6 (by decide) (hts _ wd_752) (fun _ h9 => h9) rfl (by decide +kernel) (kb_nar _) (kb_fit _) (Nat.le_of_ble_eq_true rfl) dc_Mo_integer_137 (fun H locs hP hD hS => ?_)
                            have hP : va_P D kc_l [mo_c o mth mty x0 mat mfr mto true mrd x1 x2 x3 mhf mhp mcl mck mba mct x4 x5 x6 x7 x8 mst x9 x10 x11 x12 mtr mrs x13 x14 x15 x16 mwr x17 mfo, ar_n cI x0 250 t] H := hP
                            have hD : va_D A [mo_c o mth mty x0 mat mfr mto true mrd x1 x2 x3 mhf mhp mcl mck mba mct x4 x5 x6 x7 x8 mst x9 x10 x11 x12 mtr mrs x13 x14 x15 x16 mwr x17 mfo, ar_n cI x0 250 t] := hD
                            refine lv_bipush (v := nI 10) hx hb dc_Mo_integer_140 (by decide +kernel) ?_
                            refine lv_iload_n hx hb dc_Mo_integer_142 rfl (lv_at hl 1 rfl) ?_
                            refine kn_imul hx hb dc_Mo_integer_143 ?_
                            refine lv_aload_n hx hb dc_Mo_integer_144 rfl (lv_at hl 4 rfl) ?_
                            refine va_get (ci := 10) (v := .ref x0) (C := rn_Mo) (T := fd_Mo) (N := 36) hx hb hts in_Mo hown hK hP 0 rfl rfl 2 (by decide) (hts _ wd_748) (fun _ h9 => h9) rfl dc_Mo_integer_145 ?_
                            refine lv_iload hx hb dc_Mo_integer_148 (lv_at hl 0 rfl) ?_
                            refine ka_nald (t := t) hx hb hK hP 1 0 rfl rfl (j := i) (by omega) (by omega) dc_Mo_integer_150 ?_
                            refine kn_iadd hx hb dc_Mo_integer_151 ?_
                            refine lv_bipush (v := nI 48) hx hb dc_Mo_integer_152 (by decide +kernel) ?_
                            refine kn_isub hx hb (by omega) dc_Mo_integer_154 ?_
                            refine lv_istore_n (lv' := [(3, .int (nI (((10 * v) + (t i)) - 48))), (4, .int (nI i)), (2, .int (nI (mfr + 1))), (1, .int (nI 1)), (0, .ref o)]) hx hb dc_Mo_integer_155 rfl hl (by decide) rfl (fun ls hl => ?_)
                            refine lv_iinc (k := 1) (v := nI (i + 1)) (lv' := [(4, .int (nI (i + 1))), (3, .int (nI (((10 * v) + (t i)) - 48))), (2, .int (nI (mfr + 1))), (1, .int (nI 1)), (0, .ref o)]) hx hb dc_Mo_integer_156 hl rfl (nI_1 _) (by decide) rfl (fun ls hl => ?_)
                            refine lv_goto hx hb dc_Mo_integer_159 rfl ?_
                            exact ih_91 _ _ _ _ _ (by omega) hP hD hS hl (by rw [← h1, dg_st (e := mto) (i := i) (v := v) (by omega) ⟨by omega, by omega⟩, show v * 10 + (t i - 48) = 10 * v + t i - 48 by omega]) (⟨by omega, by omega⟩)
                exact lp_91 _ (mfr + 1) 0 _ _ _ (Nat.lt_succ_self _) hP hD hS hl (rfl) (⟨by omega, by omega⟩)
  · refine lv_aload_n hx hb dc_Mo_integer_0 rfl (lv_at hl 0 rfl) ?_
    refine va_get (ci := 10) (v := .int (nI mto)) (C := rn_Mo) (T := fd_Mo) (N := 36) hx hb hts in_Mo hown hK hP 0 rfl rfl 5 (by decide) (hts _ wd_751) (fun _ h9 => h9) rfl dc_Mo_integer_1 ?_
    refine lv_aload_n hx hb dc_Mo_integer_4 rfl (lv_at hl 0 rfl) ?_
    refine va_get (ci := 10) (v := .int (nI mfr)) (C := rn_Mo) (T := fd_Mo) (N := 36) hx hb hts in_Mo hown hK hP 0 rfl rfl 4 (by decide) (hts _ wd_750) (fun _ h9 => h9) rfl dc_Mo_integer_5 ?_
    refine kn_icmp_le hx hb (by omega) (by omega) dc_Mo_integer_8 rfl (fun hc8 => ?_) (fun hc8 => ?_)
    · refine lv_iconst (v := nI 0) hx hb dc_Mo_integer_29 (by decide +kernel) ?_
      refine lv_istore_n (lv' := [(1, .int (nI 0)), (0, .ref o)]) hx hb dc_Mo_integer_30 rfl hl (by decide) rfl (fun ls hl => ?_)
      refine lv_iload_n hx hb dc_Mo_integer_31 rfl (lv_at hl 0 rfl) ?_
      refine kn_if_eq hx hb (by omega) dc_Mo_integer_32 rfl (fun hc32 => ?_) (fun hc32 => ?_)
      · refine lv_aload_n hx hb dc_Mo_integer_44 rfl (lv_at hl 1 rfl) ?_
        refine va_get (ci := 10) (v := .int (nI mfr)) (C := rn_Mo) (T := fd_Mo) (N := 36) hx hb hts in_Mo hown hK hP 0 rfl rfl 4 (by decide) (hts _ wd_750) (fun _ h9 => h9) rfl dc_Mo_integer_45 ?_
        refine lv_istore_n (lv' := [(2, .int (nI mfr)), (1, .int (nI 0)), (0, .ref o)]) hx hb dc_Mo_integer_48 rfl hl (by decide) rfl (fun ls hl => ?_)
        refine lv_iconst (v := nI 0) hx hb dc_Mo_integer_49 (by decide +kernel) ?_
        refine lv_istore_n (lv' := [(3, .int (nI 0)), (2, .int (nI mfr)), (1, .int (nI 0)), (0, .ref o)]) hx hb dc_Mo_integer_50 rfl hl (by decide) rfl (fun ls hl => ?_)
        refine lv_aload_n hx hb dc_Mo_integer_51 rfl (lv_at hl 3 rfl) ?_
        refine lv_aload_n hx hb dc_Mo_integer_52 rfl (lv_at hl 3 rfl) ?_
        refine va_get (ci := 10) (v := .int (kb_i mgd)) (C := rn_Mo) (T := fd_Mo) (N := 36) hx hb hts in_Mo hown hK hP 0 rfl rfl 6 (by decide) (hts _ wd_752) (fun _ h9 => h9) rfl dc_Mo_integer_53 ?_
        refine kb_if_eq hx hb dc_Mo_integer_56 rfl (fun hc56 => ?_) (fun hc56 => ?_)
        · exact absurd hc56 (by rw [hgd]; decide)
        · refine lv_aload_n hx hb dc_Mo_integer_59 rfl (lv_at hl 3 rfl) ?_
          refine va_get (ci := 10) (v := .int (nI mto)) (C := rn_Mo) (T := fd_Mo) (N := 36) hx hb hts in_Mo hown hK hP 0 rfl rfl 5 (by decide) (hts _ wd_751) (fun _ h9 => h9) rfl dc_Mo_integer_60 ?_
          refine lv_iload_n hx hb dc_Mo_integer_63 rfl (lv_at hl 1 rfl) ?_
          refine kn_icmp_le hx hb (by omega) (by omega) dc_Mo_integer_64 rfl (fun hc64 => ?_) (fun hc64 => ?_)
          · refine lv_iconst (v := nI 0) hx hb dc_Mo_integer_84 (by decide +kernel) ?_
            refine kn_top (y := kb_i false) (by decide +kernel) ?_
            refine va_put (ci := 10) (v := .int (kb_i false)) (ty := .boolean) (C := rn_Mo) (T := fd_Mo) (N := 36) hx hb hts in_Mo ty_Mo tk_Mo nm_Mo hown hK hP hD hS 0 rfl rfl 6 (by decide) (hts _ wd_752) (fun _ h9 => h9) rfl (by decide +kernel) (kb_nar _) (kb_fit _) (Nat.le_of_ble_eq_true rfl) dc_Mo_integer_85 (fun H locs hP hD hS => ?_)
            have hP : va_P D kc_l [mo_c o mth mty x0 mat mfr mto false mrd x1 x2 x3 mhf mhp mcl mck mba mct x4 x5 x6 x7 x8 mst x9 x10 x11 x12 mtr mrs x13 x14 x15 x16 mwr x17 mfo, ar_n cI x0 250 t] H := hP
            have hD : va_D A [mo_c o mth mty x0 mat mfr mto false mrd x1 x2 x3 mhf mhp mcl mck mba mct x4 x5 x6 x7 x8 mst x9 x10 x11 x12 mtr mrs x13 x14 x15 x16 mwr x17 mfo, ar_n cI x0 250 t] := hD
            refine lv_iload_n hx hb dc_Mo_integer_88 rfl (lv_at hl 1 rfl) ?_
            refine lv_istore (lv' := [(4, .int (nI mfr)), (3, .int (nI 0)), (2, .int (nI mfr)), (1, .int (nI 0)), (0, .ref o)]) hx hb dc_Mo_integer_89 hl (by decide) rfl (fun ls hl => ?_)
            refine lv_iload hx hb dc_Mo_integer_91 (lv_at hl 0 rfl) ?_
            refine lv_aload_n hx hb dc_Mo_integer_93 rfl (lv_at hl 4 rfl) ?_
            refine va_get (ci := 10) (v := .int (nI mto)) (C := rn_Mo) (T := fd_Mo) (N := 36) hx hb hts in_Mo hown hK hP 0 rfl rfl 5 (by decide) (hts _ wd_751) (fun _ h9 => h9) rfl dc_Mo_integer_94 ?_
            refine kn_icmp_ge hx hb (by omega) (by omega) dc_Mo_integer_97 rfl (fun hc97 => ?_) (fun hc97 => ?_)
            · refine lv_aload_n hx hb dc_Mo_integer_162 rfl (lv_at hl 4 rfl) ?_
              refine lv_aload_n hx hb dc_Mo_integer_163 rfl (lv_at hl 4 rfl) ?_
              refine va_get (ci := 10) (v := .int (kb_i false)) (C := rn_Mo) (T := fd_Mo) (N := 36) hx hb hts in_Mo hown hK hP 0 rfl rfl 6 (by decide) (hts _ wd_752) (fun _ h9 => h9) rfl dc_Mo_integer_164 ?_
              refine kb_if_eq hx hb dc_Mo_integer_167 rfl (fun hc167 => ?_) (fun hc167 => ?_)
              · refine lv_iconst (v := nI 0) hx hb dc_Mo_integer_198 (by decide +kernel) ?_
                have hpi : pt_int t mfr mto = none := by rw [pi_p hneg, if_pos (Or.inl (by omega))]
                refine kn_top (y := kb_i false) (by decide +kernel) ?_
                refine va_put (ci := 10) (v := .int (kb_i false)) (ty := .boolean) (C := rn_Mo) (T := fd_Mo) (N := 36) hx hb hts in_Mo ty_Mo tk_Mo nm_Mo hown hK hP hD hS 0 rfl rfl 6 (by decide) (hts _ wd_752) (fun _ h9 => h9) rfl (by decide +kernel) (kb_nar _) (kb_fit _) (Nat.le_of_ble_eq_true rfl) dc_Mo_integer_199 (fun H locs hP hD hS => ?_)
                have hP : va_P D kc_l [mo_c o mth mty x0 mat mfr mto false mrd x1 x2 x3 mhf mhp mcl mck mba mct x4 x5 x6 x7 x8 mst x9 x10 x11 x12 mtr mrs x13 x14 x15 x16 mwr x17 mfo, ar_n cI x0 250 t] H := hP
                have hD : va_D A [mo_c o mth mty x0 mat mfr mto false mrd x1 x2 x3 mhf mhp mcl mck mba mct x4 x5 x6 x7 x8 mst x9 x10 x11 x12 mtr mrs x13 x14 x15 x16 mwr x17 mfo, ar_n cI x0 250 t] := hD
                refine lv_aload_n hx hb dc_Mo_integer_202 rfl (lv_at hl 4 rfl) ?_
                refine va_get (ci := 10) (v := .int (kb_i false)) (C := rn_Mo) (T := fd_Mo) (N := 36) hx hb hts in_Mo hown hK hP 0 rfl rfl 6 (by decide) (hts _ wd_752) (fun _ h9 => h9) rfl dc_Mo_integer_203 ?_
                refine kb_if_ne hx hb dc_Mo_integer_206 rfl (fun hc206 => ?_) (fun hc206 => ?_)
                · exact absurd hc206 (by decide)
                · refine lv_iconst (v := nI 0) hx hb dc_Mo_integer_209 (by decide +kernel) ?_
                  refine lv_goto hx hb dc_Mo_integer_210 rfl ?_
                  exact kw_iret hx hb hr hlocks hP hD hS dc_Mo_integer_223 (by rw [hpi]; rfl) (by rw [hpi]; rfl)
              · exact absurd hc167 (by decide)
            · refine lv_aload_n hx hb dc_Mo_integer_100 rfl (lv_at hl 4 rfl) ?_
              refine va_get (ci := 10) (v := .int (kb_i false)) (C := rn_Mo) (T := fd_Mo) (N := 36) hx hb hts in_Mo hown hK hP 0 rfl rfl 6 (by decide) (hts _ wd_752) (fun _ h9 => h9) rfl dc_Mo_integer_101 ?_
              refine kb_if_eq hx hb dc_Mo_integer_104 rfl (fun hc104 => ?_) (fun hc104 => ?_)
              · refine lv_aload_n hx hb dc_Mo_integer_162 rfl (lv_at hl 4 rfl) ?_
                refine lv_aload_n hx hb dc_Mo_integer_163 rfl (lv_at hl 4 rfl) ?_
                refine va_get (ci := 10) (v := .int (kb_i false)) (C := rn_Mo) (T := fd_Mo) (N := 36) hx hb hts in_Mo hown hK hP 0 rfl rfl 6 (by decide) (hts _ wd_752) (fun _ h9 => h9) rfl dc_Mo_integer_164 ?_
                refine kb_if_eq hx hb dc_Mo_integer_167 rfl (fun hc167 => ?_) (fun hc167 => ?_)
                · refine lv_iconst (v := nI 0) hx hb dc_Mo_integer_198 (by decide +kernel) ?_
                  have hpi : pt_int t mfr mto = none := by rw [pi_p hneg, if_pos (Or.inl (by omega))]
                  refine kn_top (y := kb_i false) (by decide +kernel) ?_
                  refine va_put (ci := 10) (v := .int (kb_i false)) (ty := .boolean) (C := rn_Mo) (T := fd_Mo) (N := 36) hx hb hts in_Mo ty_Mo tk_Mo nm_Mo hown hK hP hD hS 0 rfl rfl 6 (by decide) (hts _ wd_752) (fun _ h9 => h9) rfl (by decide +kernel) (kb_nar _) (kb_fit _) (Nat.le_of_ble_eq_true rfl) dc_Mo_integer_199 (fun H locs hP hD hS => ?_)
                  have hP : va_P D kc_l [mo_c o mth mty x0 mat mfr mto false mrd x1 x2 x3 mhf mhp mcl mck mba mct x4 x5 x6 x7 x8 mst x9 x10 x11 x12 mtr mrs x13 x14 x15 x16 mwr x17 mfo, ar_n cI x0 250 t] H := hP
                  have hD : va_D A [mo_c o mth mty x0 mat mfr mto false mrd x1 x2 x3 mhf mhp mcl mck mba mct x4 x5 x6 x7 x8 mst x9 x10 x11 x12 mtr mrs x13 x14 x15 x16 mwr x17 mfo, ar_n cI x0 250 t] := hD
                  refine lv_aload_n hx hb dc_Mo_integer_202 rfl (lv_at hl 4 rfl) ?_
                  refine va_get (ci := 10) (v := .int (kb_i false)) (C := rn_Mo) (T := fd_Mo) (N := 36) hx hb hts in_Mo hown hK hP 0 rfl rfl 6 (by decide) (hts _ wd_752) (fun _ h9 => h9) rfl dc_Mo_integer_203 ?_
                  refine kb_if_ne hx hb dc_Mo_integer_206 rfl (fun hc206 => ?_) (fun hc206 => ?_)
                  · exact absurd hc206 (by decide)
                  · refine lv_iconst (v := nI 0) hx hb dc_Mo_integer_209 (by decide +kernel) ?_
                    refine lv_goto hx hb dc_Mo_integer_210 rfl ?_
                    exact kw_iret hx hb hr hlocks hP hD hS dc_Mo_integer_223 (by rw [hpi]; rfl) (by rw [hpi]; rfl)
                · exact absurd hc167 (by decide)
              · exact absurd hc104 (by decide)
          · exfalso; omega
      · exfalso; omega
    · refine lv_aload_n hx hb dc_Mo_integer_11 rfl (lv_at hl 0 rfl) ?_
      refine va_get (ci := 10) (v := .ref x0) (C := rn_Mo) (T := fd_Mo) (N := 36) hx hb hts in_Mo hown hK hP 0 rfl rfl 2 (by decide) (hts _ wd_748) (fun _ h9 => h9) rfl dc_Mo_integer_12 ?_
      refine lv_aload_n hx hb dc_Mo_integer_15 rfl (lv_at hl 0 rfl) ?_
      refine va_get (ci := 10) (v := .int (nI mfr)) (C := rn_Mo) (T := fd_Mo) (N := 36) hx hb hts in_Mo hown hK hP 0 rfl rfl 4 (by decide) (hts _ wd_750) (fun _ h9 => h9) rfl dc_Mo_integer_16 ?_
      refine ka_nald (t := t) hx hb hK hP 1 0 rfl rfl (j := mfr) (by omega) (by omega) dc_Mo_integer_19 ?_
      refine lv_bipush (v := nI 45) hx hb dc_Mo_integer_20 (by decide +kernel) ?_
      refine kn_icmp_ne hx hb (Nat.lt_trans (ht mfr) (by decide)) (by omega) dc_Mo_integer_22 rfl (fun hc22 => ?_) (fun hc22 => ?_)
      · refine lv_iconst (v := nI 0) hx hb dc_Mo_integer_29 (by decide +kernel) ?_
        refine lv_istore_n (lv' := [(1, .int (nI 0)), (0, .ref o)]) hx hb dc_Mo_integer_30 rfl hl (by decide) rfl (fun ls hl => ?_)
        refine lv_iload_n hx hb dc_Mo_integer_31 rfl (lv_at hl 0 rfl) ?_
        refine kn_if_eq hx hb (by omega) dc_Mo_integer_32 rfl (fun hc32 => ?_) (fun hc32 => ?_)
        · refine lv_aload_n hx hb dc_Mo_integer_44 rfl (lv_at hl 1 rfl) ?_
          refine va_get (ci := 10) (v := .int (nI mfr)) (C := rn_Mo) (T := fd_Mo) (N := 36) hx hb hts in_Mo hown hK hP 0 rfl rfl 4 (by decide) (hts _ wd_750) (fun _ h9 => h9) rfl dc_Mo_integer_45 ?_
          refine lv_istore_n (lv' := [(2, .int (nI mfr)), (1, .int (nI 0)), (0, .ref o)]) hx hb dc_Mo_integer_48 rfl hl (by decide) rfl (fun ls hl => ?_)
          refine lv_iconst (v := nI 0) hx hb dc_Mo_integer_49 (by decide +kernel) ?_
          refine lv_istore_n (lv' := [(3, .int (nI 0)), (2, .int (nI mfr)), (1, .int (nI 0)), (0, .ref o)]) hx hb dc_Mo_integer_50 rfl hl (by decide) rfl (fun ls hl => ?_)
          refine lv_aload_n hx hb dc_Mo_integer_51 rfl (lv_at hl 3 rfl) ?_
          refine lv_aload_n hx hb dc_Mo_integer_52 rfl (lv_at hl 3 rfl) ?_
          refine va_get (ci := 10) (v := .int (kb_i mgd)) (C := rn_Mo) (T := fd_Mo) (N := 36) hx hb hts in_Mo hown hK hP 0 rfl rfl 6 (by decide) (hts _ wd_752) (fun _ h9 => h9) rfl dc_Mo_integer_53 ?_
          refine kb_if_eq hx hb dc_Mo_integer_56 rfl (fun hc56 => ?_) (fun hc56 => ?_)
          · exact absurd hc56 (by rw [hgd]; decide)
          · refine lv_aload_n hx hb dc_Mo_integer_59 rfl (lv_at hl 3 rfl) ?_
            refine va_get (ci := 10) (v := .int (nI mto)) (C := rn_Mo) (T := fd_Mo) (N := 36) hx hb hts in_Mo hown hK hP 0 rfl rfl 5 (by decide) (hts _ wd_751) (fun _ h9 => h9) rfl dc_Mo_integer_60 ?_
            refine lv_iload_n hx hb dc_Mo_integer_63 rfl (lv_at hl 1 rfl) ?_
            refine kn_icmp_le hx hb (by omega) (by omega) dc_Mo_integer_64 rfl (fun hc64 => ?_) (fun hc64 => ?_)
            · refine lv_iconst (v := nI 0) hx hb dc_Mo_integer_84 (by decide +kernel) ?_
              refine kn_top (y := kb_i false) (by decide +kernel) ?_
              refine va_put (ci := 10) (v := .int (kb_i false)) (ty := .boolean) (C := rn_Mo) (T := fd_Mo) (N := 36) hx hb hts in_Mo ty_Mo tk_Mo nm_Mo hown hK hP hD hS 0 rfl rfl 6 (by decide) (hts _ wd_752) (fun _ h9 => h9) rfl (by decide +kernel) (kb_nar _) (kb_fit _) (Nat.le_of_ble_eq_true rfl) dc_Mo_integer_85 (fun H locs hP hD hS => ?_)
              have hP : va_P D kc_l [mo_c o mth mty x0 mat mfr mto false mrd x1 x2 x3 mhf mhp mcl mck mba mct x4 x5 x6 x7 x8 mst x9 x10 x11 x12 mtr mrs x13 x14 x15 x16 mwr x17 mfo, ar_n cI x0 250 t] H := hP
              have hD : va_D A [mo_c o mth mty x0 mat mfr mto false mrd x1 x2 x3 mhf mhp mcl mck mba mct x4 x5 x6 x7 x8 mst x9 x10 x11 x12 mtr mrs x13 x14 x15 x16 mwr x17 mfo, ar_n cI x0 250 t] := hD
              refine lv_iload_n hx hb dc_Mo_integer_88 rfl (lv_at hl 1 rfl) ?_
              refine lv_istore (lv' := [(4, .int (nI mfr)), (3, .int (nI 0)), (2, .int (nI mfr)), (1, .int (nI 0)), (0, .ref o)]) hx hb dc_Mo_integer_89 hl (by decide) rfl (fun ls hl => ?_)
              refine lv_iload hx hb dc_Mo_integer_91 (lv_at hl 0 rfl) ?_
              refine lv_aload_n hx hb dc_Mo_integer_93 rfl (lv_at hl 4 rfl) ?_
              refine va_get (ci := 10) (v := .int (nI mto)) (C := rn_Mo) (T := fd_Mo) (N := 36) hx hb hts in_Mo hown hK hP 0 rfl rfl 5 (by decide) (hts _ wd_751) (fun _ h9 => h9) rfl dc_Mo_integer_94 ?_
              refine kn_icmp_ge hx hb (by omega) (by omega) dc_Mo_integer_97 rfl (fun hc97 => ?_) (fun hc97 => ?_)
              · refine lv_aload_n hx hb dc_Mo_integer_162 rfl (lv_at hl 4 rfl) ?_
                refine lv_aload_n hx hb dc_Mo_integer_163 rfl (lv_at hl 4 rfl) ?_
                refine va_get (ci := 10) (v := .int (kb_i false)) (C := rn_Mo) (T := fd_Mo) (N := 36) hx hb hts in_Mo hown hK hP 0 rfl rfl 6 (by decide) (hts _ wd_752) (fun _ h9 => h9) rfl dc_Mo_integer_164 ?_
                refine kb_if_eq hx hb dc_Mo_integer_167 rfl (fun hc167 => ?_) (fun hc167 => ?_)
                · refine lv_iconst (v := nI 0) hx hb dc_Mo_integer_198 (by decide +kernel) ?_
                  have hpi : pt_int t mfr mto = none := by rw [pi_p hneg, if_pos (Or.inl (by omega))]
                  refine kn_top (y := kb_i false) (by decide +kernel) ?_
                  refine va_put (ci := 10) (v := .int (kb_i false)) (ty := .boolean) (C := rn_Mo) (T := fd_Mo) (N := 36) hx hb hts in_Mo ty_Mo tk_Mo nm_Mo hown hK hP hD hS 0 rfl rfl 6 (by decide) (hts _ wd_752) (fun _ h9 => h9) rfl (by decide +kernel) (kb_nar _) (kb_fit _) (Nat.le_of_ble_eq_true rfl) dc_Mo_integer_199 (fun H locs hP hD hS => ?_)
                  have hP : va_P D kc_l [mo_c o mth mty x0 mat mfr mto false mrd x1 x2 x3 mhf mhp mcl mck mba mct x4 x5 x6 x7 x8 mst x9 x10 x11 x12 mtr mrs x13 x14 x15 x16 mwr x17 mfo, ar_n cI x0 250 t] H := hP
                  have hD : va_D A [mo_c o mth mty x0 mat mfr mto false mrd x1 x2 x3 mhf mhp mcl mck mba mct x4 x5 x6 x7 x8 mst x9 x10 x11 x12 mtr mrs x13 x14 x15 x16 mwr x17 mfo, ar_n cI x0 250 t] := hD
                  refine lv_aload_n hx hb dc_Mo_integer_202 rfl (lv_at hl 4 rfl) ?_
                  refine va_get (ci := 10) (v := .int (kb_i false)) (C := rn_Mo) (T := fd_Mo) (N := 36) hx hb hts in_Mo hown hK hP 0 rfl rfl 6 (by decide) (hts _ wd_752) (fun _ h9 => h9) rfl dc_Mo_integer_203 ?_
                  refine kb_if_ne hx hb dc_Mo_integer_206 rfl (fun hc206 => ?_) (fun hc206 => ?_)
                  · exact absurd hc206 (by decide)
                  · refine lv_iconst (v := nI 0) hx hb dc_Mo_integer_209 (by decide +kernel) ?_
                    refine lv_goto hx hb dc_Mo_integer_210 rfl ?_
                    exact kw_iret hx hb hr hlocks hP hD hS dc_Mo_integer_223 (by rw [hpi]; rfl) (by rw [hpi]; rfl)
                · exact absurd hc167 (by decide)
              · refine lv_aload_n hx hb dc_Mo_integer_100 rfl (lv_at hl 4 rfl) ?_
                refine va_get (ci := 10) (v := .int (kb_i false)) (C := rn_Mo) (T := fd_Mo) (N := 36) hx hb hts in_Mo hown hK hP 0 rfl rfl 6 (by decide) (hts _ wd_752) (fun _ h9 => h9) rfl dc_Mo_integer_101 ?_
                refine kb_if_eq hx hb dc_Mo_integer_104 rfl (fun hc104 => ?_) (fun hc104 => ?_)
                · refine lv_aload_n hx hb dc_Mo_integer_162 rfl (lv_at hl 4 rfl) ?_
                  refine lv_aload_n hx hb dc_Mo_integer_163 rfl (lv_at hl 4 rfl) ?_
                  refine va_get (ci := 10) (v := .int (kb_i false)) (C := rn_Mo) (T := fd_Mo) (N := 36) hx hb hts in_Mo hown hK hP 0 rfl rfl 6 (by decide) (hts _ wd_752) (fun _ h9 => h9) rfl dc_Mo_integer_164 ?_
                  refine kb_if_eq hx hb dc_Mo_integer_167 rfl (fun hc167 => ?_) (fun hc167 => ?_)
                  · refine lv_iconst (v := nI 0) hx hb dc_Mo_integer_198 (by decide +kernel) ?_
                    have hpi : pt_int t mfr mto = none := by rw [pi_p hneg, if_pos (Or.inl (by omega))]
                    refine kn_top (y := kb_i false) (by decide +kernel) ?_
                    refine va_put (ci := 10) (v := .int (kb_i false)) (ty := .boolean) (C := rn_Mo) (T := fd_Mo) (N := 36) hx hb hts in_Mo ty_Mo tk_Mo nm_Mo hown hK hP hD hS 0 rfl rfl 6 (by decide) (hts _ wd_752) (fun _ h9 => h9) rfl (by decide +kernel) (kb_nar _) (kb_fit _) (Nat.le_of_ble_eq_true rfl) dc_Mo_integer_199 (fun H locs hP hD hS => ?_)
                    have hP : va_P D kc_l [mo_c o mth mty x0 mat mfr mto false mrd x1 x2 x3 mhf mhp mcl mck mba mct x4 x5 x6 x7 x8 mst x9 x10 x11 x12 mtr mrs x13 x14 x15 x16 mwr x17 mfo, ar_n cI x0 250 t] H := hP
                    have hD : va_D A [mo_c o mth mty x0 mat mfr mto false mrd x1 x2 x3 mhf mhp mcl mck mba mct x4 x5 x6 x7 x8 mst x9 x10 x11 x12 mtr mrs x13 x14 x15 x16 mwr x17 mfo, ar_n cI x0 250 t] := hD
                    refine lv_aload_n hx hb dc_Mo_integer_202 rfl (lv_at hl 4 rfl) ?_
                    refine va_get (ci := 10) (v := .int (kb_i false)) (C := rn_Mo) (T := fd_Mo) (N := 36) hx hb hts in_Mo hown hK hP 0 rfl rfl 6 (by decide) (hts _ wd_752) (fun _ h9 => h9) rfl dc_Mo_integer_203 ?_
                    refine kb_if_ne hx hb dc_Mo_integer_206 rfl (fun hc206 => ?_) (fun hc206 => ?_)
                    · exact absurd hc206 (by decide)
                    · refine lv_iconst (v := nI 0) hx hb dc_Mo_integer_209 (by decide +kernel) ?_
                      refine lv_goto hx hb dc_Mo_integer_210 rfl ?_
                      exact kw_iret hx hb hr hlocks hP hD hS dc_Mo_integer_223 (by rw [hpi]; rfl) (by rw [hpi]; rfl)
                  · exact absurd hc167 (by decide)
                · exact absurd hc104 (by decide)
            · refine lv_aload_n hx hb dc_Mo_integer_67 rfl (lv_at hl 3 rfl) ?_
              refine va_get (ci := 10) (v := .int (nI mto)) (C := rn_Mo) (T := fd_Mo) (N := 36) hx hb hts in_Mo hown hK hP 0 rfl rfl 5 (by decide) (hts _ wd_751) (fun _ h9 => h9) rfl dc_Mo_integer_68 ?_
              refine lv_aload_n hx hb dc_Mo_integer_71 rfl (lv_at hl 3 rfl) ?_
              refine va_get (ci := 10) (v := .int (nI mfr)) (C := rn_Mo) (T := fd_Mo) (N := 36) hx hb hts in_Mo hown hK hP 0 rfl rfl 4 (by decide) (hts _ wd_750) (fun _ h9 => h9) rfl dc_Mo_integer_72 ?_
              refine kn_isub hx hb (by omega) dc_Mo_integer_75 ?_
              refine lv_iconst (v := nI 3) hx hb dc_Mo_integer_76 (by decide +kernel) ?_
              refine kn_icmp_gt hx hb (by omega) (by omega) dc_Mo_integer_77 rfl (fun hc77 => ?_) (fun hc77 => ?_)
              · refine lv_iconst (v := nI 0) hx hb dc_Mo_integer_84 (by decide +kernel) ?_
                refine kn_top (y := kb_i false) (by decide +kernel) ?_
                refine va_put (ci := 10) (v := .int (kb_i false)) (ty := .boolean) (C := rn_Mo) (T := fd_Mo) (N := 36) hx hb hts in_Mo ty_Mo tk_Mo nm_Mo hown hK hP hD hS 0 rfl rfl 6 (by decide) (hts _ wd_752) (fun _ h9 => h9) rfl (by decide +kernel) (kb_nar _) (kb_fit _) (Nat.le_of_ble_eq_true rfl) dc_Mo_integer_85 (fun H locs hP hD hS => ?_)
                have hP : va_P D kc_l [mo_c o mth mty x0 mat mfr mto false mrd x1 x2 x3 mhf mhp mcl mck mba mct x4 x5 x6 x7 x8 mst x9 x10 x11 x12 mtr mrs x13 x14 x15 x16 mwr x17 mfo, ar_n cI x0 250 t] H := hP
                have hD : va_D A [mo_c o mth mty x0 mat mfr mto false mrd x1 x2 x3 mhf mhp mcl mck mba mct x4 x5 x6 x7 x8 mst x9 x10 x11 x12 mtr mrs x13 x14 x15 x16 mwr x17 mfo, ar_n cI x0 250 t] := hD
                refine lv_iload_n hx hb dc_Mo_integer_88 rfl (lv_at hl 1 rfl) ?_
                refine lv_istore (lv' := [(4, .int (nI mfr)), (3, .int (nI 0)), (2, .int (nI mfr)), (1, .int (nI 0)), (0, .ref o)]) hx hb dc_Mo_integer_89 hl (by decide) rfl (fun ls hl => ?_)
                refine lv_iload hx hb dc_Mo_integer_91 (lv_at hl 0 rfl) ?_
                refine lv_aload_n hx hb dc_Mo_integer_93 rfl (lv_at hl 4 rfl) ?_
                refine va_get (ci := 10) (v := .int (nI mto)) (C := rn_Mo) (T := fd_Mo) (N := 36) hx hb hts in_Mo hown hK hP 0 rfl rfl 5 (by decide) (hts _ wd_751) (fun _ h9 => h9) rfl dc_Mo_integer_94 ?_
                refine kn_icmp_ge hx hb (by omega) (by omega) dc_Mo_integer_97 rfl (fun hc97 => ?_) (fun hc97 => ?_)
                · refine lv_aload_n hx hb dc_Mo_integer_162 rfl (lv_at hl 4 rfl) ?_
                  refine lv_aload_n hx hb dc_Mo_integer_163 rfl (lv_at hl 4 rfl) ?_
                  refine va_get (ci := 10) (v := .int (kb_i false)) (C := rn_Mo) (T := fd_Mo) (N := 36) hx hb hts in_Mo hown hK hP 0 rfl rfl 6 (by decide) (hts _ wd_752) (fun _ h9 => h9) rfl dc_Mo_integer_164 ?_
                  refine kb_if_eq hx hb dc_Mo_integer_167 rfl (fun hc167 => ?_) (fun hc167 => ?_)
                  · refine lv_iconst (v := nI 0) hx hb dc_Mo_integer_198 (by decide +kernel) ?_
                    have hpi : pt_int t mfr mto = none := by rw [pi_p hneg, if_pos (Or.inr (Or.inl (by omega)))]
                    refine kn_top (y := kb_i false) (by decide +kernel) ?_
                    refine va_put (ci := 10) (v := .int (kb_i false)) (ty := .boolean) (C := rn_Mo) (T := fd_Mo) (N := 36) hx hb hts in_Mo ty_Mo tk_Mo nm_Mo hown hK hP hD hS 0 rfl rfl 6 (by decide) (hts _ wd_752) (fun _ h9 => h9) rfl (by decide +kernel) (kb_nar _) (kb_fit _) (Nat.le_of_ble_eq_true rfl) dc_Mo_integer_199 (fun H locs hP hD hS => ?_)
                    have hP : va_P D kc_l [mo_c o mth mty x0 mat mfr mto false mrd x1 x2 x3 mhf mhp mcl mck mba mct x4 x5 x6 x7 x8 mst x9 x10 x11 x12 mtr mrs x13 x14 x15 x16 mwr x17 mfo, ar_n cI x0 250 t] H := hP
                    have hD : va_D A [mo_c o mth mty x0 mat mfr mto false mrd x1 x2 x3 mhf mhp mcl mck mba mct x4 x5 x6 x7 x8 mst x9 x10 x11 x12 mtr mrs x13 x14 x15 x16 mwr x17 mfo, ar_n cI x0 250 t] := hD
                    refine lv_aload_n hx hb dc_Mo_integer_202 rfl (lv_at hl 4 rfl) ?_
                    refine va_get (ci := 10) (v := .int (kb_i false)) (C := rn_Mo) (T := fd_Mo) (N := 36) hx hb hts in_Mo hown hK hP 0 rfl rfl 6 (by decide) (hts _ wd_752) (fun _ h9 => h9) rfl dc_Mo_integer_203 ?_
                    refine kb_if_ne hx hb dc_Mo_integer_206 rfl (fun hc206 => ?_) (fun hc206 => ?_)
                    · exact absurd hc206 (by decide)
                    · refine lv_iconst (v := nI 0) hx hb dc_Mo_integer_209 (by decide +kernel) ?_
                      refine lv_goto hx hb dc_Mo_integer_210 rfl ?_
                      exact kw_iret hx hb hr hlocks hP hD hS dc_Mo_integer_223 (by rw [hpi]; rfl) (by rw [hpi]; rfl)
                  · exact absurd hc167 (by decide)
                · refine lv_aload_n hx hb dc_Mo_integer_100 rfl (lv_at hl 4 rfl) ?_
                  refine va_get (ci := 10) (v := .int (kb_i false)) (C := rn_Mo) (T := fd_Mo) (N := 36) hx hb hts in_Mo hown hK hP 0 rfl rfl 6 (by decide) (hts _ wd_752) (fun _ h9 => h9) rfl dc_Mo_integer_101 ?_
                  refine kb_if_eq hx hb dc_Mo_integer_104 rfl (fun hc104 => ?_) (fun hc104 => ?_)
                  · refine lv_aload_n hx hb dc_Mo_integer_162 rfl (lv_at hl 4 rfl) ?_
                    refine lv_aload_n hx hb dc_Mo_integer_163 rfl (lv_at hl 4 rfl) ?_
                    refine va_get (ci := 10) (v := .int (kb_i false)) (C := rn_Mo) (T := fd_Mo) (N := 36) hx hb hts in_Mo hown hK hP 0 rfl rfl 6 (by decide) (hts _ wd_752) (fun _ h9 => h9) rfl dc_Mo_integer_164 ?_
                    refine kb_if_eq hx hb dc_Mo_integer_167 rfl (fun hc167 => ?_) (fun hc167 => ?_)
                    · refine lv_iconst (v := nI 0) hx hb dc_Mo_integer_198 (by decide +kernel) ?_
                      have hpi : pt_int t mfr mto = none := by rw [pi_p hneg, if_pos (Or.inr (Or.inl (by omega)))]
                      refine kn_top (y := kb_i false) (by decide +kernel) ?_
                      refine va_put (ci := 10) (v := .int (kb_i false)) (ty := .boolean) (C := rn_Mo) (T := fd_Mo) (N := 36) hx hb hts in_Mo ty_Mo tk_Mo nm_Mo hown hK hP hD hS 0 rfl rfl 6 (by decide) (hts _ wd_752) (fun _ h9 => h9) rfl (by decide +kernel) (kb_nar _) (kb_fit _) (Nat.le_of_ble_eq_true rfl) dc_Mo_integer_199 (fun H locs hP hD hS => ?_)
                      have hP : va_P D kc_l [mo_c o mth mty x0 mat mfr mto false mrd x1 x2 x3 mhf mhp mcl mck mba mct x4 x5 x6 x7 x8 mst x9 x10 x11 x12 mtr mrs x13 x14 x15 x16 mwr x17 mfo, ar_n cI x0 250 t] H := hP
                      have hD : va_D A [mo_c o mth mty x0 mat mfr mto false mrd x1 x2 x3 mhf mhp mcl mck mba mct x4 x5 x6 x7 x8 mst x9 x10 x11 x12 mtr mrs x13 x14 x15 x16 mwr x17 mfo, ar_n cI x0 250 t] := hD
                      refine lv_aload_n hx hb dc_Mo_integer_202 rfl (lv_at hl 4 rfl) ?_
                      refine va_get (ci := 10) (v := .int (kb_i false)) (C := rn_Mo) (T := fd_Mo) (N := 36) hx hb hts in_Mo hown hK hP 0 rfl rfl 6 (by decide) (hts _ wd_752) (fun _ h9 => h9) rfl dc_Mo_integer_203 ?_
                      refine kb_if_ne hx hb dc_Mo_integer_206 rfl (fun hc206 => ?_) (fun hc206 => ?_)
                      · exact absurd hc206 (by decide)
                      · refine lv_iconst (v := nI 0) hx hb dc_Mo_integer_209 (by decide +kernel) ?_
                        refine lv_goto hx hb dc_Mo_integer_210 rfl ?_
                        exact kw_iret hx hb hr hlocks hP hD hS dc_Mo_integer_223 (by rw [hpi]; rfl) (by rw [hpi]; rfl)
                    · exact absurd hc167 (by decide)
                  · exact absurd hc104 (by decide)
              · refine lv_iconst (v := nI 1) hx hb dc_Mo_integer_80 (by decide +kernel) ?_
                refine lv_goto hx hb dc_Mo_integer_81 rfl ?_
                refine kn_top (y := kb_i true) (by decide +kernel) ?_
                refine va_put (ci := 10) (v := .int (kb_i true)) (ty := .boolean) (C := rn_Mo) (T := fd_Mo) (N := 36) hx hb hts in_Mo ty_Mo tk_Mo nm_Mo hown hK hP hD hS 0 rfl rfl 6 (by decide) (hts _ wd_752) (fun _ h9 => h9) rfl (by decide +kernel) (kb_nar _) (kb_fit _) (Nat.le_of_ble_eq_true rfl) dc_Mo_integer_85 (fun H locs hP hD hS => ?_)
                have hP : va_P D kc_l [mo_c o mth mty x0 mat mfr mto true mrd x1 x2 x3 mhf mhp mcl mck mba mct x4 x5 x6 x7 x8 mst x9 x10 x11 x12 mtr mrs x13 x14 x15 x16 mwr x17 mfo, ar_n cI x0 250 t] H := hP
                have hD : va_D A [mo_c o mth mty x0 mat mfr mto true mrd x1 x2 x3 mhf mhp mcl mck mba mct x4 x5 x6 x7 x8 mst x9 x10 x11 x12 mtr mrs x13 x14 x15 x16 mwr x17 mfo, ar_n cI x0 250 t] := hD
                refine lv_iload_n hx hb dc_Mo_integer_88 rfl (lv_at hl 1 rfl) ?_
                refine lv_istore (lv' := [(4, .int (nI mfr)), (3, .int (nI 0)), (2, .int (nI mfr)), (1, .int (nI 0)), (0, .ref o)]) hx hb dc_Mo_integer_89 hl (by decide) rfl (fun ls hl => ?_)
                have lp_91 : ∀ (K : Nat) (i : Nat) (v : Nat) (H : Heap) (locs : List Loc) (ls : Array Slot), mto - i < K → va_P D kc_l [mo_c o mth mty x0 mat mfr mto true mrd x1 x2 x3 mhf mhp mcl mck mba mct x4 x5 x6 x7 x8 mst x9 x10 x11 x12 mtr mrs x13 x14 x15 x16 mwr x17 mfo, ar_n cI x0 250 t] H → va_D A [mo_c o mth mty x0 mat mfr mto true mrd x1 x2 x3 mhf mhp mcl mck mba mct x4 x5 x6 x7 x8 mst x9 x10 x11 x12 mtr mrs x13 x14 x15 x16 mwr x17 mfo, ar_n cI x0 250 t] → va_S A s.heap H locs → lv_has ls 5 [(4, .int (nI i)), (3, .int (nI v)), (2, .int (nI mfr)), (1, .int (nI 0)), (0, .ref o)] → (pt_dg t (mto - i) i v = pt_dg t (mto - (mfr)) (mfr) 0) → (mfr ≤ i ∧ i ≤ mto) → W p l e ({ frames := 0, cells := 0, slots := 0, locals := 0 } : Room) s m ([.ref o] : List Value).toArray below meth c H locs 0 0 (MQ below (kw_q (some (.int ((pt_int t mfr mto).getD 0))) D kc_l [mo_c o mth mty x0 mat mfr mto ((pt_int t mfr mto).isSome) mrd x1 x2 x3 mhf mhp mcl mck mba mct x4 x5 x6 x7 x8 mst x9 x10 x11 x12 mtr mrs x13 x14 x15 x16 mwr x17 mfo, ar_n cI x0 250 t] A) ([.ref o] : List Value).toArray s 0 0 A) (F0 m 91 ls []) := by
                  intro K
                  induction K with
                  | zero =>
                    intro i v H locs ls hk
                    exact absurd hk (Nat.not_lt_zero _)
                  | succ K ih_91 =>
                    intro i v H locs ls hk hP hD hS hl h1 h2
                    refine lv_iload hx hb dc_Mo_integer_91 (lv_at hl 0 rfl) ?_
                    refine lv_aload_n hx hb dc_Mo_integer_93 rfl (lv_at hl 4 rfl) ?_
                    refine va_get (ci := 10) (v := .int (nI mto)) (C := rn_Mo) (T := fd_Mo) (N := 36) hx hb hts in_Mo hown hK hP 0 rfl rfl 5 (by decide) (hts _ wd_751) (fun _ h9 => h9) rfl dc_Mo_integer_94 ?_
                    refine kn_icmp_ge hx hb (by omega) (by omega) dc_Mo_integer_97 rfl (fun hc97 => ?_) (fun hc97 => ?_)
                    · refine lv_aload_n hx hb dc_Mo_integer_162 rfl (lv_at hl 4 rfl) ?_
                      refine lv_aload_n hx hb dc_Mo_integer_163 rfl (lv_at hl 4 rfl) ?_
                      refine va_get (ci := 10) (v := .int (kb_i true)) (C := rn_Mo) (T := fd_Mo) (N := 36) hx hb hts in_Mo hown hK hP 0 rfl rfl 6 (by decide) (hts _ wd_752) (fun _ h9 => h9) rfl dc_Mo_integer_164 ?_
                      refine kb_if_eq hx hb dc_Mo_integer_167 rfl (fun hc167 => ?_) (fun hc167 => ?_)
                      · exact absurd hc167 (by decide)
                      · refine lv_aload_n hx hb dc_Mo_integer_170 rfl (lv_at hl 4 rfl) ?_
                        refine va_get (ci := 10) (v := .ref x0) (C := rn_Mo) (T := fd_Mo) (N := 36) hx hb hts in_Mo hown hK hP 0 rfl rfl 2 (by decide) (hts _ wd_748) (fun _ h9 => h9) rfl dc_Mo_integer_171 ?_
                        refine lv_iload_n hx hb dc_Mo_integer_174 rfl (lv_at hl 2 rfl) ?_
                        refine ka_nald (t := t) hx hb hK hP 1 0 rfl rfl (j := mfr) (by omega) (by omega) dc_Mo_integer_175 ?_
                        refine lv_bipush (v := nI 48) hx hb dc_Mo_integer_176 (by decide +kernel) ?_
                        refine kn_icmp_ne hx hb (Nat.lt_trans (ht mfr) (by decide)) (by omega) dc_Mo_integer_178 rfl (fun hc178 => ?_) (fun hc178 => ?_)
                        · refine lv_iconst (v := nI 1) hx hb dc_Mo_integer_194 (by decide +kernel) ?_
                          refine lv_goto hx hb dc_Mo_integer_195 rfl ?_
                          have hpi : pt_int t mfr mto = some (nI v) := by rw [pi_p hneg, if_neg (fun q => by omega), ← h1, dg_en (by omega)]; rfl
                          refine kn_top (y := kb_i true) (by decide +kernel) ?_
                          refine va_put (ci := 10) (v := .int (kb_i true)) (ty := .boolean) (C := rn_Mo) (T := fd_Mo) (N := 36) hx hb hts in_Mo ty_Mo tk_Mo nm_Mo hown hK hP hD hS 0 rfl rfl 6 (by decide) (hts _ wd_752) (fun _ h9 => h9) rfl (by decide +kernel) (kb_nar _) (kb_fit _) (Nat.le_of_ble_eq_true rfl) dc_Mo_integer_199 (fun H locs hP hD hS => ?_)
                          have hP : va_P D kc_l [mo_c o mth mty x0 mat mfr mto true mrd x1 x2 x3 mhf mhp mcl mck mba mct x4 x5 x6 x7 x8 mst x9 x10 x11 x12 mtr mrs x13 x14 x15 x16 mwr x17 mfo, ar_n cI x0 250 t] H := hP
                          have hD : va_D A [mo_c o mth mty x0 mat mfr mto true mrd x1 x2 x3 mhf mhp mcl mck mba mct x4 x5 x6 x7 x8 mst x9 x10 x11 x12 mtr mrs x13 x14 x15 x16 mwr x17 mfo, ar_n cI x0 250 t] := hD
                          refine lv_aload_n hx hb dc_Mo_integer_202 rfl (lv_at hl 4 rfl) ?_
                          refine va_get (ci := 10) (v := .int (kb_i true)) (C := rn_Mo) (T := fd_Mo) (N := 36) hx hb hts in_Mo hown hK hP 0 rfl rfl 6 (by decide) (hts _ wd_752) (fun _ h9 => h9) rfl dc_Mo_integer_203 ?_
                          refine kb_if_ne hx hb dc_Mo_integer_206 rfl (fun hc206 => ?_) (fun hc206 => ?_)
                          · refine lv_iload_n hx hb dc_Mo_integer_213 rfl (lv_at hl 3 rfl) ?_
                            refine kn_if_eq hx hb (by omega) dc_Mo_integer_214 rfl (fun hc214 => ?_) (fun hc214 => ?_)
                            · refine lv_iload_n hx hb dc_Mo_integer_222 rfl (lv_at hl 1 rfl) ?_
                              exact kw_iret hx hb hr hlocks hP hD hS dc_Mo_integer_223 (by rw [hpi]; rfl) (by rw [hpi]; rfl)
                            · exfalso; omega
                          · exact absurd hc206 (by decide)
                        · refine lv_aload_n hx hb dc_Mo_integer_181 rfl (lv_at hl 4 rfl) ?_
                          refine va_get (ci := 10) (v := .int (nI mto)) (C := rn_Mo) (T := fd_Mo) (N := 36) hx hb hts in_Mo hown hK hP 0 rfl rfl 5 (by decide) (hts _ wd_751) (fun _ h9 => h9) rfl dc_Mo_integer_182 ?_
                          refine lv_aload_n hx hb dc_Mo_integer_185 rfl (lv_at hl 4 rfl) ?_
                          refine va_get (ci := 10) (v := .int (nI mfr)) (C := rn_Mo) (T := fd_Mo) (N := 36) hx hb hts in_Mo hown hK hP 0 rfl rfl 4 (by decide) (hts _ wd_750) (fun _ h9 => h9) rfl dc_Mo_integer_186 ?_
                          refine kn_isub hx hb (by omega) dc_Mo_integer_189 ?_
                          refine lv_iconst (v := nI 1) hx hb dc_Mo_integer_190 (by decide +kernel) ?_
                          refine kn_icmp_ne hx hb (by omega) (by omega) dc_Mo_integer_191 rfl (fun hc191 => ?_) (fun hc191 => ?_)
                          · refine lv_iconst (v := nI 0) hx hb dc_Mo_integer_198 (by decide +kernel) ?_
                            have hpi : pt_int t mfr mto = none := by rw [pi_p hneg, if_pos (Or.inr (Or.inr (⟨hc178, by omega⟩)))]
                            refine kn_top (y := kb_i false) (by decide +kernel) ?_
                            refine va_put (ci := 10) (v := .int (kb_i false)) (ty := .boolean) (C := rn_Mo) (T := fd_Mo) (N := 36) hx hb hts in_Mo ty_Mo tk_Mo nm_Mo hown hK hP hD hS 0 rfl rfl 6 (by decide) (hts _ wd_752) (fun _ h9 => h9) rfl (by decide +kernel) (kb_nar _) (kb_fit _) (Nat.le_of_ble_eq_true rfl) dc_Mo_integer_199 (fun H locs hP hD hS => ?_)
                            have hP : va_P D kc_l [mo_c o mth mty x0 mat mfr mto false mrd x1 x2 x3 mhf mhp mcl mck mba mct x4 x5 x6 x7 x8 mst x9 x10 x11 x12 mtr mrs x13 x14 x15 x16 mwr x17 mfo, ar_n cI x0 250 t] H := hP
                            have hD : va_D A [mo_c o mth mty x0 mat mfr mto false mrd x1 x2 x3 mhf mhp mcl mck mba mct x4 x5 x6 x7 x8 mst x9 x10 x11 x12 mtr mrs x13 x14 x15 x16 mwr x17 mfo, ar_n cI x0 250 t] := hD
                            refine lv_aload_n hx hb dc_Mo_integer_202 rfl (lv_at hl 4 rfl) ?_
                            refine va_get (ci := 10) (v := .int (kb_i false)) (C := rn_Mo) (T := fd_Mo) (N := 36) hx hb hts in_Mo hown hK hP 0 rfl rfl 6 (by decide) (hts _ wd_752) (fun _ h9 => h9) rfl dc_Mo_integer_203 ?_
                            refine kb_if_ne hx hb dc_Mo_integer_206 rfl (fun hc206 => ?_) (fun hc206 => ?_)
                            · exact absurd hc206 (by decide)
                            · refine lv_iconst (v := nI 0) hx hb dc_Mo_integer_209 (by decide +kernel) ?_
                              refine lv_goto hx hb dc_Mo_integer_210 rfl ?_
                              exact kw_iret hx hb hr hlocks hP hD hS dc_Mo_integer_223 (by rw [hpi]; rfl) (by rw [hpi]; rfl)
                          · refine lv_iconst (v := nI 1) hx hb dc_Mo_integer_194 (by decide +kernel) ?_
                            refine lv_goto hx hb dc_Mo_integer_195 rfl ?_
                            have hpi : pt_int t mfr mto = some (nI v) := by rw [pi_p hneg, if_neg (fun q => by omega), ← h1, dg_en (by omega)]; rfl
                            refine kn_top (y := kb_i true) (by decide +kernel) ?_
                            refine va_put (ci := 10) (v := .int (kb_i true)) (ty := .boolean) (C := rn_Mo) (T := fd_Mo) (N := 36) hx hb hts in_Mo ty_Mo tk_Mo nm_Mo hown hK hP hD hS 0 rfl rfl 6 (by decide) (hts _ wd_752) (fun _ h9 => h9) rfl (by decide +kernel) (kb_nar _) (kb_fit _) (Nat.le_of_ble_eq_true rfl) dc_Mo_integer_199 (fun H locs hP hD hS => ?_)
                            have hP : va_P D kc_l [mo_c o mth mty x0 mat mfr mto true mrd x1 x2 x3 mhf mhp mcl mck mba mct x4 x5 x6 x7 x8 mst x9 x10 x11 x12 mtr mrs x13 x14 x15 x16 mwr x17 mfo, ar_n cI x0 250 t] H := hP
                            have hD : va_D A [mo_c o mth mty x0 mat mfr mto true mrd x1 x2 x3 mhf mhp mcl mck mba mct x4 x5 x6 x7 x8 mst x9 x10 x11 x12 mtr mrs x13 x14 x15 x16 mwr x17 mfo, ar_n cI x0 250 t] := hD
                            refine lv_aload_n hx hb dc_Mo_integer_202 rfl (lv_at hl 4 rfl) ?_
                            refine va_get (ci := 10) (v := .int (kb_i true)) (C := rn_Mo) (T := fd_Mo) (N := 36) hx hb hts in_Mo hown hK hP 0 rfl rfl 6 (by decide) (hts _ wd_752) (fun _ h9 => h9) rfl dc_Mo_integer_203 ?_
                            refine kb_if_ne hx hb dc_Mo_integer_206 rfl (fun hc206 => ?_) (fun hc206 => ?_)
                            · refine lv_iload_n hx hb dc_Mo_integer_213 rfl (lv_at hl 3 rfl) ?_
                              refine kn_if_eq hx hb (by omega) dc_Mo_integer_214 rfl (fun hc214 => ?_) (fun hc214 => ?_)
                              · refine lv_iload_n hx hb dc_Mo_integer_222 rfl (lv_at hl 1 rfl) ?_
                                exact kw_iret hx hb hr hlocks hP hD hS dc_Mo_integer_223 (by rw [hpi]; rfl) (by rw [hpi]; rfl)
                              · exfalso; omega
                            · exact absurd hc206 (by decide)
                    · refine lv_aload_n hx hb dc_Mo_integer_100 rfl (lv_at hl 4 rfl) ?_
                      refine va_get (ci := 10) (v := .int (kb_i true)) (C := rn_Mo) (T := fd_Mo) (N := 36) hx hb hts in_Mo hown hK hP 0 rfl rfl 6 (by decide) (hts _ wd_752) (fun _ h9 => h9) rfl dc_Mo_integer_101 ?_
                      refine kb_if_eq hx hb dc_Mo_integer_104 rfl (fun hc104 => ?_) (fun hc104 => ?_)
                      · exact absurd hc104 (by decide)
                      · refine lv_aload_n hx hb dc_Mo_integer_107 rfl (lv_at hl 4 rfl) ?_
                        refine lv_aload_n hx hb dc_Mo_integer_108 rfl (lv_at hl 4 rfl) ?_
                        refine va_get (ci := 10) (v := .ref x0) (C := rn_Mo) (T := fd_Mo) (N := 36) hx hb hts in_Mo hown hK hP 0 rfl rfl 2 (by decide) (hts _ wd_748) (fun _ h9 => h9) rfl dc_Mo_integer_109 ?_
                        refine lv_iload hx hb dc_Mo_integer_112 (lv_at hl 0 rfl) ?_
                        refine ka_nald (t := t) hx hb hK hP 1 0 rfl rfl (j := i) (by omega) (by omega) dc_Mo_integer_114 ?_
                        refine lv_bipush (v := nI 48) hx hb dc_Mo_integer_115 (by decide +kernel) ?_
                        refine kn_icmp_lt hx hb (Nat.lt_trans (ht i) (by decide)) (by omega) dc_Mo_integer_117 rfl (fun hc117 => ?_) (fun hc117 => ?_)
                        · refine lv_iconst (v := nI 0) hx hb dc_Mo_integer_136 (by decide +kernel) ?_
                          refine kn_top (y := kb_i false) (by decide +kernel) ?_
                          refine va_put (ci := 10) (v := .int (kb_i false)) (ty := .boolean) (C := rn_Mo) (T := fd_Mo) (N := 36) hx hb hts in_Mo ty_Mo tk_Mo nm_Mo hown hK hP hD hS 0 rfl rfl 6 (by decide) (hts _ wd_752) (fun _ h9 => h9) rfl (by decide +kernel) (kb_nar _) (kb_fit _) (Nat.le_of_ble_eq_true rfl) dc_Mo_integer_137 (fun H locs hP hD hS => ?_)
                          have hP : va_P D kc_l [mo_c o mth mty x0 mat mfr mto false mrd x1 x2 x3 mhf mhp mcl mck mba mct x4 x5 x6 x7 x8 mst x9 x10 x11 x12 mtr mrs x13 x14 x15 x16 mwr x17 mfo, ar_n cI x0 250 t] H := hP
                          have hD : va_D A [mo_c o mth mty x0 mat mfr mto false mrd x1 x2 x3 mhf mhp mcl mck mba mct x4 x5 x6 x7 x8 mst x9 x10 x11 x12 mtr mrs x13 x14 x15 x16 mwr x17 mfo, ar_n cI x0 250 t] := hD
                          refine lv_bipush (v := nI 10) hx hb dc_Mo_integer_140 (by decide +kernel) ?_
                          refine lv_iload_n hx hb dc_Mo_integer_142 rfl (lv_at hl 1 rfl) ?_
                          refine kn_imul hx hb dc_Mo_integer_143 ?_
                          refine lv_aload_n hx hb dc_Mo_integer_144 rfl (lv_at hl 4 rfl) ?_
                          refine va_get (ci := 10) (v := .ref x0) (C := rn_Mo) (T := fd_Mo) (N := 36) hx hb hts in_Mo hown hK hP 0 rfl rfl 2 (by decide) (hts _ wd_748) (fun _ h9 => h9) rfl dc_Mo_integer_145 ?_
                          refine lv_iload hx hb dc_Mo_integer_148 (lv_at hl 0 rfl) ?_
                          refine ka_nald (t := t) hx hb hK hP 1 0 rfl rfl (j := i) (by omega) (by omega) dc_Mo_integer_150 ?_
                          refine kn_iadd hx hb dc_Mo_integer_151 ?_
                          refine lv_bipush (v := nI 48) hx hb dc_Mo_integer_152 (by decide +kernel) ?_
                          refine lv_isub hx hb dc_Mo_integer_154 ?_
                          refine lv_istore_n (lv' := [(3, .int ((nI ((10 * v) + (t i))) - (nI 48))), (4, .int (nI i)), (2, .int (nI mfr)), (1, .int (nI 0)), (0, .ref o)]) hx hb dc_Mo_integer_155 rfl hl (by decide) rfl (fun ls hl => ?_)
                          refine lv_iinc (k := 1) (v := nI (i + 1)) (lv' := [(4, .int (nI (i + 1))), (3, .int ((nI ((10 * v) + (t i))) - (nI 48))), (2, .int (nI mfr)), (1, .int (nI 0)), (0, .ref o)]) hx hb dc_Mo_integer_156 hl rfl (nI_1 _) (by decide) rfl (fun ls hl => ?_)
                          refine lv_goto hx hb dc_Mo_integer_159 rfl ?_
                          refine lv_iload hx hb dc_Mo_integer_91 (lv_at hl 0 rfl) ?_
                          refine lv_aload_n hx hb dc_Mo_integer_93 rfl (lv_at hl 4 rfl) ?_
                          refine va_get (ci := 10) (v := .int (nI mto)) (C := rn_Mo) (T := fd_Mo) (N := 36) hx hb hts in_Mo hown hK hP 0 rfl rfl 5 (by decide) (hts _ wd_751) (fun _ h9 => h9) rfl dc_Mo_integer_94 ?_
                          refine kn_icmp_ge hx hb (by omega) (by omega) dc_Mo_integer_97 rfl (fun hc97 => ?_) (fun hc97 => ?_)
                          · refine lv_aload_n hx hb dc_Mo_integer_162 rfl (lv_at hl 4 rfl) ?_
                            refine lv_aload_n hx hb dc_Mo_integer_163 rfl (lv_at hl 4 rfl) ?_
                            refine va_get (ci := 10) (v := .int (kb_i false)) (C := rn_Mo) (T := fd_Mo) (N := 36) hx hb hts in_Mo hown hK hP 0 rfl rfl 6 (by decide) (hts _ wd_752) (fun _ h9 => h9) rfl dc_Mo_integer_164 ?_
                            refine kb_if_eq hx hb dc_Mo_integer_167 rfl (fun hc167 => ?_) (fun hc167 => ?_)
                            · refine lv_iconst (v := nI 0) hx hb dc_Mo_integer_198 (by decide +kernel) ?_
                              have hpi : pt_int t mfr mto = none := by rw [pi_p hneg, ← h1, dg_no (by omega) (fun q => by omega)]; split <;> rfl
                              refine kn_top (y := kb_i false) (by decide +kernel) ?_
                              refine va_put (ci := 10) (v := .int (kb_i false)) (ty := .boolean) (C := rn_Mo) (T := fd_Mo) (N := 36) hx hb hts in_Mo ty_Mo tk_Mo nm_Mo hown hK hP hD hS 0 rfl rfl 6 (by decide) (hts _ wd_752) (fun _ h9 => h9) rfl (by decide +kernel) (kb_nar _) (kb_fit _) (Nat.le_of_ble_eq_true rfl) dc_Mo_integer_199 (fun H locs hP hD hS => ?_)
                              have hP : va_P D kc_l [mo_c o mth mty x0 mat mfr mto false mrd x1 x2 x3 mhf mhp mcl mck mba mct x4 x5 x6 x7 x8 mst x9 x10 x11 x12 mtr mrs x13 x14 x15 x16 mwr x17 mfo, ar_n cI x0 250 t] H := hP
                              have hD : va_D A [mo_c o mth mty x0 mat mfr mto false mrd x1 x2 x3 mhf mhp mcl mck mba mct x4 x5 x6 x7 x8 mst x9 x10 x11 x12 mtr mrs x13 x14 x15 x16 mwr x17 mfo, ar_n cI x0 250 t] := hD
                              refine lv_aload_n hx hb dc_Mo_integer_202 rfl (lv_at hl 4 rfl) ?_
                              refine va_get (ci := 10) (v := .int (kb_i false)) (C := rn_Mo) (T := fd_Mo) (N := 36) hx hb hts in_Mo hown hK hP 0 rfl rfl 6 (by decide) (hts _ wd_752) (fun _ h9 => h9) rfl dc_Mo_integer_203 ?_
                              refine kb_if_ne hx hb dc_Mo_integer_206 rfl (fun hc206 => ?_) (fun hc206 => ?_)
                              · exact absurd hc206 (by decide)
                              · refine lv_iconst (v := nI 0) hx hb dc_Mo_integer_209 (by decide +kernel) ?_
                                refine lv_goto hx hb dc_Mo_integer_210 rfl ?_
                                exact kw_iret hx hb hr hlocks hP hD hS dc_Mo_integer_223 (by rw [hpi]; rfl) (by rw [hpi]; rfl)
                            · exact absurd hc167 (by decide)
                          · refine lv_aload_n hx hb dc_Mo_integer_100 rfl (lv_at hl 4 rfl) ?_
                            refine va_get (ci := 10) (v := .int (kb_i false)) (C := rn_Mo) (T := fd_Mo) (N := 36) hx hb hts in_Mo hown hK hP 0 rfl rfl 6 (by decide) (hts _ wd_752) (fun _ h9 => h9) rfl dc_Mo_integer_101 ?_
                            refine kb_if_eq hx hb dc_Mo_integer_104 rfl (fun hc104 => ?_) (fun hc104 => ?_)
                            · refine lv_aload_n hx hb dc_Mo_integer_162 rfl (lv_at hl 4 rfl) ?_
                              refine lv_aload_n hx hb dc_Mo_integer_163 rfl (lv_at hl 4 rfl) ?_
                              refine va_get (ci := 10) (v := .int (kb_i false)) (C := rn_Mo) (T := fd_Mo) (N := 36) hx hb hts in_Mo hown hK hP 0 rfl rfl 6 (by decide) (hts _ wd_752) (fun _ h9 => h9) rfl dc_Mo_integer_164 ?_
                              refine kb_if_eq hx hb dc_Mo_integer_167 rfl (fun hc167 => ?_) (fun hc167 => ?_)
                              · refine lv_iconst (v := nI 0) hx hb dc_Mo_integer_198 (by decide +kernel) ?_
                                have hpi : pt_int t mfr mto = none := by rw [pi_p hneg, ← h1, dg_no (by omega) (fun q => by omega)]; split <;> rfl
                                refine kn_top (y := kb_i false) (by decide +kernel) ?_
                                refine va_put (ci := 10) (v := .int (kb_i false)) (ty := .boolean) (C := rn_Mo) (T := fd_Mo) (N := 36) hx hb hts in_Mo ty_Mo tk_Mo nm_Mo hown hK hP hD hS 0 rfl rfl 6 (by decide) (hts _ wd_752) (fun _ h9 => h9) rfl (by decide +kernel) (kb_nar _) (kb_fit _) (Nat.le_of_ble_eq_true rfl) dc_Mo_integer_199 (fun H locs hP hD hS => ?_)
                                have hP : va_P D kc_l [mo_c o mth mty x0 mat mfr mto false mrd x1 x2 x3 mhf mhp mcl mck mba mct x4 x5 x6 x7 x8 mst x9 x10 x11 x12 mtr mrs x13 x14 x15 x16 mwr x17 mfo, ar_n cI x0 250 t] H := hP
                                have hD : va_D A [mo_c o mth mty x0 mat mfr mto false mrd x1 x2 x3 mhf mhp mcl mck mba mct x4 x5 x6 x7 x8 mst x9 x10 x11 x12 mtr mrs x13 x14 x15 x16 mwr x17 mfo, ar_n cI x0 250 t] := hD
                                refine lv_aload_n hx hb dc_Mo_integer_202 rfl (lv_at hl 4 rfl) ?_
                                refine va_get (ci := 10) (v := .int (kb_i false)) (C := rn_Mo) (T := fd_Mo) (N := 36) hx hb hts in_Mo hown hK hP 0 rfl rfl 6 (by decide) (hts _ wd_752) (fun _ h9 => h9) rfl dc_Mo_integer_203 ?_
                                refine kb_if_ne hx hb dc_Mo_integer_206 rfl (fun hc206 => ?_) (fun hc206 => ?_)
                                · exact absurd hc206 (by decide)
                                · refine lv_iconst (v := nI 0) hx hb dc_Mo_integer_209 (by decide +kernel) ?_
                                  refine lv_goto hx hb dc_Mo_integer_210 rfl ?_
                                  exact kw_iret hx hb hr hlocks hP hD hS dc_Mo_integer_223 (by rw [hpi]; rfl) (by rw [hpi]; rfl)
                              · exact absurd hc167 (by decide)
                            · exact absurd hc104 (by decide)
                        · refine lv_aload_n hx hb dc_Mo_integer_120 rfl (lv_at hl 4 rfl) ?_
                          refine va_get (ci := 10) (v := .ref x0) (C := rn_Mo) (T := fd_Mo) (N := 36) hx hb hts in_Mo hown hK hP 0 rfl rfl 2 (by decide) (hts _ wd_748) (fun _ h9 => h9) rfl dc_Mo_integer_121 ?_
                          refine lv_iload hx hb dc_Mo_integer_124 (lv_at hl 0 rfl) ?_
                          refine ka_nald (t := t) hx hb hK hP 1 0 rfl rfl (j := i) (by omega) (by omega) dc_Mo_integer_126 ?_
                          refine lv_bipush (v := nI 57) hx hb dc_Mo_integer_127 (by decide +kernel) ?_
                          refine kn_icmp_gt hx hb (Nat.lt_trans (ht i) (by decide)) (by omega) dc_Mo_integer_129 rfl (fun hc129 => ?_) (fun hc129 => ?_)
                          · refine lv_iconst (v := nI 0) hx hb dc_Mo_integer_136 (by decide +kernel) ?_
                            refine kn_top (y := kb_i false) (by decide +kernel) ?_
                            refine va_put (ci := 10) (v := .int (kb_i false)) (ty := .boolean) (C := rn_Mo) (T := fd_Mo) (N := 36) hx hb hts in_Mo ty_Mo tk_Mo nm_Mo hown hK hP hD hS 0 rfl rfl 6 (by decide) (hts _ wd_752) (fun _ h9 => h9) rfl (by decide +kernel) (kb_nar _) (kb_fit _) (Nat.le_of_ble_eq_true rfl) dc_Mo_integer_137 (fun H locs hP hD hS => ?_)
                            have hP : va_P D kc_l [mo_c o mth mty x0 mat mfr mto false mrd x1 x2 x3 mhf mhp mcl mck mba mct x4 x5 x6 x7 x8 mst x9 x10 x11 x12 mtr mrs x13 x14 x15 x16 mwr x17 mfo, ar_n cI x0 250 t] H := hP
                            have hD : va_D A [mo_c o mth mty x0 mat mfr mto false mrd x1 x2 x3 mhf mhp mcl mck mba mct x4 x5 x6 x7 x8 mst x9 x10 x11 x12 mtr mrs x13 x14 x15 x16 mwr x17 mfo, ar_n cI x0 250 t] := hD
                            refine lv_bipush (v := nI 10) hx hb dc_Mo_integer_140 (by decide +kernel) ?_
                            refine lv_iload_n hx hb dc_Mo_integer_142 rfl (lv_at hl 1 rfl) ?_
                            refine kn_imul hx hb dc_Mo_integer_143 ?_
                            refine lv_aload_n hx hb dc_Mo_integer_144 rfl (lv_at hl 4 rfl) ?_
                            refine va_get (ci := 10) (v := .ref x0) (C := rn_Mo) (T := fd_Mo) (N := 36) hx hb hts in_Mo hown hK hP 0 rfl rfl 2 (by decide) (hts _ wd_748) (fun _ h9 => h9) rfl dc_Mo_integer_145 ?_
                            refine lv_iload hx hb dc_Mo_integer_148 (lv_at hl 0 rfl) ?_
                            refine ka_nald (t := t) hx hb hK hP 1 0 rfl rfl (j := i) (by omega) (by omega) dc_Mo_integer_150 ?_
                            refine kn_iadd hx hb dc_Mo_integer_151 ?_
                            refine lv_bipush (v := nI 48) hx hb dc_Mo_integer_152 (by decide +kernel) ?_
                            refine lv_isub hx hb dc_Mo_integer_154 ?_
                            refine lv_istore_n (lv' := [(3, .int ((nI ((10 * v) + (t i))) - (nI 48))), (4, .int (nI i)), (2, .int (nI mfr)), (1, .int (nI 0)), (0, .ref o)]) hx hb dc_Mo_integer_155 rfl hl (by decide) rfl (fun ls hl => ?_)
                            refine lv_iinc (k := 1) (v := nI (i + 1)) (lv' := [(4, .int (nI (i + 1))), (3, .int ((nI ((10 * v) + (t i))) - (nI 48))), (2, .int (nI mfr)), (1, .int (nI 0)), (0, .ref o)]) hx hb dc_Mo_integer_156 hl rfl (nI_1 _) (by decide) rfl (fun ls hl => ?_)
                            refine lv_goto hx hb dc_Mo_integer_159 rfl ?_
                            refine lv_iload hx hb dc_Mo_integer_91 (lv_at hl 0 rfl) ?_
                            refine lv_aload_n hx hb dc_Mo_integer_93 rfl (lv_at hl 4 rfl) ?_
                            refine va_get (ci := 10) (v := .int (nI mto)) (C := rn_Mo) (T := fd_Mo) (N := 36) hx hb hts in_Mo hown hK hP 0 rfl rfl 5 (by decide) (hts _ wd_751) (fun _ h9 => h9) rfl dc_Mo_integer_94 ?_
                            refine kn_icmp_ge hx hb (by omega) (by omega) dc_Mo_integer_97 rfl (fun hc97 => ?_) (fun hc97 => ?_)
                            · refine lv_aload_n hx hb dc_Mo_integer_162 rfl (lv_at hl 4 rfl) ?_
                              refine lv_aload_n hx hb dc_Mo_integer_163 rfl (lv_at hl 4 rfl) ?_
                              refine va_get (ci := 10) (v := .int (kb_i false)) (C := rn_Mo) (T := fd_Mo) (N := 36) hx hb hts in_Mo hown hK hP 0 rfl rfl 6 (by decide) (hts _ wd_752) (fun _ h9 => h9) rfl dc_Mo_integer_164 ?_
                              refine kb_if_eq hx hb dc_Mo_integer_167 rfl (fun hc167 => ?_) (fun hc167 => ?_)
                              · refine lv_iconst (v := nI 0) hx hb dc_Mo_integer_198 (by decide +kernel) ?_
                                have hpi : pt_int t mfr mto = none := by rw [pi_p hneg, ← h1, dg_no (by omega) (fun q => by omega)]; split <;> rfl
                                refine kn_top (y := kb_i false) (by decide +kernel) ?_
                                refine va_put (ci := 10) (v := .int (kb_i false)) (ty := .boolean) (C := rn_Mo) (T := fd_Mo) (N := 36) hx hb hts in_Mo ty_Mo tk_Mo nm_Mo hown hK hP hD hS 0 rfl rfl 6 (by decide) (hts _ wd_752) (fun _ h9 => h9) rfl (by decide +kernel) (kb_nar _) (kb_fit _) (Nat.le_of_ble_eq_true rfl) dc_Mo_integer_199 (fun H locs hP hD hS => ?_)
                                have hP : va_P D kc_l [mo_c o mth mty x0 mat mfr mto false mrd x1 x2 x3 mhf mhp mcl mck mba mct x4 x5 x6 x7 x8 mst x9 x10 x11 x12 mtr mrs x13 x14 x15 x16 mwr x17 mfo, ar_n cI x0 250 t] H := hP
                                have hD : va_D A [mo_c o mth mty x0 mat mfr mto false mrd x1 x2 x3 mhf mhp mcl mck mba mct x4 x5 x6 x7 x8 mst x9 x10 x11 x12 mtr mrs x13 x14 x15 x16 mwr x17 mfo, ar_n cI x0 250 t] := hD
                                refine lv_aload_n hx hb dc_Mo_integer_202 rfl (lv_at hl 4 rfl) ?_
                                refine va_get (ci := 10) (v := .int (kb_i false)) (C := rn_Mo) (T := fd_Mo) (N := 36) hx hb hts in_Mo hown hK hP 0 rfl rfl 6 (by decide) (hts _ wd_752) (fun _ h9 => h9) rfl dc_Mo_integer_203 ?_
                                refine kb_if_ne hx hb dc_Mo_integer_206 rfl (fun hc206 => ?_) (fun hc206 => ?_)
                                · exact absurd hc206 (by decide)
                                · refine lv_iconst (v := nI 0) hx hb dc_Mo_integer_209 (by decide +kernel) ?_
                                  refine lv_goto hx hb dc_Mo_integer_210 rfl ?_
                                  exact kw_iret hx hb hr hlocks hP hD hS dc_Mo_integer_223 (by rw [hpi]; rfl) (by rw [hpi]; rfl)
                              · exact absurd hc167 (by decide)
                            · refine lv_aload_n hx hb dc_Mo_integer_100 rfl (lv_at hl 4 rfl) ?_
                              refine va_get (ci := 10) (v := .int (kb_i false)) (C := rn_Mo) (T := fd_Mo) (N := 36) hx hb hts in_Mo hown hK hP 0 rfl rfl 6 (by decide) (hts _ wd_752) (fun _ h9 => h9) rfl dc_Mo_integer_101 ?_
                              refine kb_if_eq hx hb dc_Mo_integer_104 rfl (fun hc104 => ?_) (fun hc104 => ?_)
                              · refine lv_aload_n hx hb dc_Mo_integer_162 rfl (lv_at hl 4 rfl) ?_
                                refine lv_aload_n hx hb dc_Mo_integer_163 rfl (lv_at hl 4 rfl) ?_
                                refine va_get (ci := 10) (v := .int (kb_i false)) (C := rn_Mo) (T := fd_Mo) (N := 36) hx hb hts in_Mo hown hK hP 0 rfl rfl 6 (by decide) (hts _ wd_752) (fun _ h9 => h9) rfl dc_Mo_integer_164 ?_
                                refine kb_if_eq hx hb dc_Mo_integer_167 rfl (fun hc167 => ?_) (fun hc167 => ?_)
                                · refine lv_iconst (v := nI 0) hx hb dc_Mo_integer_198 (by decide +kernel) ?_
                                  have hpi : pt_int t mfr mto = none := by rw [pi_p hneg, ← h1, dg_no (by omega) (fun q => by omega)]; split <;> rfl
                                  refine kn_top (y := kb_i false) (by decide +kernel) ?_
                                  refine va_put (ci := 10) (v := .int (kb_i false)) (ty := .boolean) (C := rn_Mo) (T := fd_Mo) (N := 36) hx hb hts in_Mo ty_Mo tk_Mo nm_Mo hown hK hP hD hS 0 rfl rfl 6 (by decide) (hts _ wd_752) (fun _ h9 => h9) rfl (by decide +kernel) (kb_nar _) (kb_fit _) (Nat.le_of_ble_eq_true rfl) dc_Mo_integer_199 (fun H locs hP hD hS => ?_)
                                  have hP : va_P D kc_l [mo_c o mth mty x0 mat mfr mto false mrd x1 x2 x3 mhf mhp mcl mck mba mct x4 x5 x6 x7 x8 mst x9 x10 x11 x12 mtr mrs x13 x14 x15 x16 mwr x17 mfo, ar_n cI x0 250 t] H := hP
                                  have hD : va_D A [mo_c o mth mty x0 mat mfr mto false mrd x1 x2 x3 mhf mhp mcl mck mba mct x4 x5 x6 x7 x8 mst x9 x10 x11 x12 mtr mrs x13 x14 x15 x16 mwr x17 mfo, ar_n cI x0 250 t] := hD
                                  refine lv_aload_n hx hb dc_Mo_integer_202 rfl (lv_at hl 4 rfl) ?_
                                  refine va_get (ci := 10) (v := .int (kb_i false)) (C := rn_Mo) (T := fd_Mo) (N := 36) hx hb hts in_Mo hown hK hP 0 rfl rfl 6 (by decide) (hts _ wd_752) (fun _ h9 => h9) rfl dc_Mo_integer_203 ?_
                                  refine kb_if_ne hx hb dc_Mo_integer_206 rfl (fun hc206 => ?_) (fun hc206 => ?_)
                                  · exact absurd hc206 (by decide)
                                  · refine lv_iconst (v := nI 0) hx hb dc_Mo_integer_209 (by decide +kernel) ?_
                                    refine lv_goto hx hb dc_Mo_integer_210 rfl ?_
                                    exact kw_iret hx hb hr hlocks hP hD hS dc_Mo_integer_223 (by rw [hpi]; rfl) (by rw [hpi]; rfl)
                                · exact absurd hc167 (by decide)
                              · exact absurd hc104 (by decide)
                          · refine lv_iconst (v := nI 1) hx hb dc_Mo_integer_132 (by decide +kernel) ?_
                            refine lv_goto hx hb dc_Mo_integer_133 rfl ?_
                            refine kn_top (y := kb_i true) (by decide +kernel) ?_
                            refine va_put (ci := 10) (v := .int (kb_i true)) (ty := .boolean) (C := rn_Mo) (T := fd_Mo) (N := 36) hx hb hts in_Mo ty_Mo tk_Mo nm_Mo hown hK hP hD hS 0 rfl rfl 6 (by decide) (hts _ wd_752) (fun _ h9 => h9) rfl (by decide +kernel) (kb_nar _) (kb_fit _) (Nat.le_of_ble_eq_true rfl) dc_Mo_integer_137 (fun H locs hP hD hS => ?_)
                            have hP : va_P D kc_l [mo_c o mth mty x0 mat mfr mto true mrd x1 x2 x3 mhf mhp mcl mck mba mct x4 x5 x6 x7 x8 mst x9 x10 x11 x12 mtr mrs x13 x14 x15 x16 mwr x17 mfo, ar_n cI x0 250 t] H := hP
                            have hD : va_D A [mo_c o mth mty x0 mat mfr mto true mrd x1 x2 x3 mhf mhp mcl mck mba mct x4 x5 x6 x7 x8 mst x9 x10 x11 x12 mtr mrs x13 x14 x15 x16 mwr x17 mfo, ar_n cI x0 250 t] := hD
                            refine lv_bipush (v := nI 10) hx hb dc_Mo_integer_140 (by decide +kernel) ?_
                            refine lv_iload_n hx hb dc_Mo_integer_142 rfl (lv_at hl 1 rfl) ?_
                            refine kn_imul hx hb dc_Mo_integer_143 ?_
                            refine lv_aload_n hx hb dc_Mo_integer_144 rfl (lv_at hl 4 rfl) ?_
                            refine va_get (ci := 10) (v := .ref x0) (C := rn_Mo) (T := fd_Mo) (N := 36) hx hb hts in_Mo hown hK hP 0 rfl rfl 2 (by decide) (hts _ wd_748) (fun _ h9 => h9) rfl dc_Mo_integer_145 ?_
                            refine lv_iload hx hb dc_Mo_integer_148 (lv_at hl 0 rfl) ?_
                            refine ka_nald (t := t) hx hb hK hP 1 0 rfl rfl (j := i) (by omega) (by omega) dc_Mo_integer_150 ?_
                            refine kn_iadd hx hb dc_Mo_integer_151 ?_
                            refine lv_bipush (v := nI 48) hx hb dc_Mo_integer_152 (by decide +kernel) ?_
                            refine kn_isub hx hb (by omega) dc_Mo_integer_154 ?_
                            refine lv_istore_n (lv' := [(3, .int (nI (((10 * v) + (t i)) - 48))), (4, .int (nI i)), (2, .int (nI mfr)), (1, .int (nI 0)), (0, .ref o)]) hx hb dc_Mo_integer_155 rfl hl (by decide) rfl (fun ls hl => ?_)
                            refine lv_iinc (k := 1) (v := nI (i + 1)) (lv' := [(4, .int (nI (i + 1))), (3, .int (nI (((10 * v) + (t i)) - 48))), (2, .int (nI mfr)), (1, .int (nI 0)), (0, .ref o)]) hx hb dc_Mo_integer_156 hl rfl (nI_1 _) (by decide) rfl (fun ls hl => ?_)
                            refine lv_goto hx hb dc_Mo_integer_159 rfl ?_
                            exact ih_91 _ _ _ _ _ (by omega) hP hD hS hl (by rw [← h1, dg_st (e := mto) (i := i) (v := v) (by omega) ⟨by omega, by omega⟩, show v * 10 + (t i - 48) = 10 * v + t i - 48 by omega]) (⟨by omega, by omega⟩)
                exact lp_91 _ mfr 0 _ _ _ (Nat.lt_succ_self _) hP hD hS hl (rfl) (⟨by omega, by omega⟩)
        · exfalso; omega
      · exact absurd ⟨by omega, hc22⟩ hneg

set_option maxHeartbeats 4000000 in
set_option maxRecDepth 100000 in
theorem ct_Mo_isWord1 (l : Launch) (D : va_G) (cI cZ : ClassId) (sz : Nat) (o : Nat) (mth : Nat) (mty : Nat) (x0 : Nat) (mat : Nat) (mfr : Nat) (mto : Nat) (mgd : Bool) (mrd : Nat) (x1 : Nat) (x2 : Nat) (x3 : Nat) (mhf : Bool) (mhp : Bool) (mcl : Bool) (mck : Bool) (mba : Nat) (mct : Nat) (x4 : Nat) (x5 : Nat) (x6 : Nat) (x7 : Nat) (x8 : Nat) (mst : Nat) (x9 : Nat) (x10 : Nat) (x11 : Nat) (x12 : Nat) (mtr : Nat) (mrs : Nat) (x13 : Nat) (x14 : Nat) (x15 : Nat) (x16 : Nat) (mwr : Nat) (x17 : Nat) (mfo : Nat) (t : Nat → Nat) (x : Nat) (hft : mfr ≤ mto) (hto : mto ≤ 250) (ht : ∀ j, t j < 256) (hx : x < 2 ^ 31) : Met l yn_Mo_isWord (Cond.code yn_Mo_isWord bc_Mo_isWord 5 (some .boolean) :: kx_all) ({ frames := 0, cells := 0, slots := 0, locals := 0 } : Room) (kp [.ref o, .int (nI x), .int (nI 0), .int (nI 0)] D cI cZ [mo_c o mth mty x0 mat mfr mto mgd mrd x1 x2 x3 mhf mhp mcl mck mba mct x4 x5 x6 x7 x8 mst x9 x10 x11 x12 mtr mrs x13 x14 x15 x16 mwr x17 mfo, ar_n cI x0 250 t] sz) (kr_q (some (.int (kb_i (pt_w1 t mfr mto x))))) 0 0 (fun _ => False) := by
  refine kx_met (by decide) (Nat.le_of_ble_eq_true rfl) ?_
  intro p e s m below meth c ls hx hb hr hml hts hown hlocks hin hsz hP hK hD hN hl
  have hown : s.vm.findClass rn_Mo = some m.cls := hown
  have hl : lv_has ls 5 [(0, .ref o), (1, .int (nI x)), (2, .int (nI 0)), (3, .int (nI 0))] := hl
  refine lv_iload_n hx hb dc_Mo_isWord_0 rfl (lv_at hl 3 rfl) ?_
  refine lv_if_le hx hb dc_Mo_isWord_1 rfl (fun hc1 => ?_) (fun hc1 => ?_)
  · refine lv_iconst (v := nI 1) hx hb dc_Mo_isWord_8 (by decide +kernel) ?_
    refine lv_istore (lv' := [(4, .int (nI 1)), (0, .ref o), (1, .int (nI x)), (2, .int (nI 0)), (3, .int (nI 0))]) hx hb dc_Mo_isWord_9 hl (by decide) rfl (fun ls hl => ?_)
    refine lv_aload_n hx hb dc_Mo_isWord_11 rfl (lv_at hl 1 rfl) ?_
    refine va_get (ci := 10) (v := .int (nI mto)) (C := rn_Mo) (T := fd_Mo) (N := 36) hx hb hts in_Mo hown hK hP 0 rfl rfl 5 (by decide) (hts _ wd_751) (fun _ h9 => h9) rfl dc_Mo_isWord_12 ?_
    refine lv_aload_n hx hb dc_Mo_isWord_15 rfl (lv_at hl 1 rfl) ?_
    refine va_get (ci := 10) (v := .int (nI mfr)) (C := rn_Mo) (T := fd_Mo) (N := 36) hx hb hts in_Mo hown hK hP 0 rfl rfl 4 (by decide) (hts _ wd_750) (fun _ h9 => h9) rfl dc_Mo_isWord_16 ?_
    refine kn_isub hx hb (by omega) dc_Mo_isWord_19 ?_
    refine lv_iload hx hb dc_Mo_isWord_20 (lv_at hl 0 rfl) ?_
    refine kn_icmp_ne hx hb (by omega) (by omega) dc_Mo_isWord_22 rfl (fun hc22 => ?_) (fun hc22 => ?_)
    · refine lv_iconst (v := nI 0) hx hb dc_Mo_isWord_78 (by decide +kernel) ?_
      refine kn_top (y := kb_i false) (by decide +kernel) ?_
      exact kr_zret hx hb hr hlocks dc_Mo_isWord_79 ((decide_eq_false (fun q => hc22 q.1)).symm)
    · refine lv_aload_n hx hb dc_Mo_isWord_25 rfl (lv_at hl 1 rfl) ?_
      refine va_get (ci := 10) (v := .ref x0) (C := rn_Mo) (T := fd_Mo) (N := 36) hx hb hts in_Mo hown hK hP 0 rfl rfl 2 (by decide) (hts _ wd_748) (fun _ h9 => h9) rfl dc_Mo_isWord_26 ?_
      refine lv_aload_n hx hb dc_Mo_isWord_29 rfl (lv_at hl 1 rfl) ?_
      refine va_get (ci := 10) (v := .int (nI mfr)) (C := rn_Mo) (T := fd_Mo) (N := 36) hx hb hts in_Mo hown hK hP 0 rfl rfl 4 (by decide) (hts _ wd_750) (fun _ h9 => h9) rfl dc_Mo_isWord_30 ?_
      refine ka_nald (t := t) hx hb hK hP 1 0 rfl rfl (j := mfr) (by omega) (by omega) dc_Mo_isWord_33 ?_
      refine lv_iload_n hx hb dc_Mo_isWord_34 rfl (lv_at hl 2 rfl) ?_
      refine kn_icmp_ne hx hb (Nat.lt_trans (ht mfr) (by decide)) (by omega) dc_Mo_isWord_35 rfl (fun hc35 => ?_) (fun hc35 => ?_)
      · refine lv_iconst (v := nI 0) hx hb dc_Mo_isWord_78 (by decide +kernel) ?_
        refine kn_top (y := kb_i false) (by decide +kernel) ?_
        exact kr_zret hx hb hr hlocks dc_Mo_isWord_79 ((decide_eq_false (fun q => hc35 q.2)).symm)
      · refine lv_iload hx hb dc_Mo_isWord_38 (lv_at hl 0 rfl) ?_
        refine lv_iconst (v := nI 1) hx hb dc_Mo_isWord_40 (by decide +kernel) ?_
        refine kn_icmp_eq hx hb (by omega) (by omega) dc_Mo_isWord_41 rfl (fun hc41 => ?_) (fun hc41 => ?_)
        · refine lv_iconst (v := nI 1) hx hb dc_Mo_isWord_74 (by decide +kernel) ?_
          refine lv_goto hx hb dc_Mo_isWord_75 rfl ?_
          refine kn_top (y := kb_i true) (by decide +kernel) ?_
          exact kr_zret hx hb hr hlocks dc_Mo_isWord_79 ((decide_eq_true ⟨hc22, hc35⟩).symm)
        · exfalso; omega
  · exact absurd (by decide +kernel) hc1

set_option maxHeartbeats 4000000 in
set_option maxRecDepth 100000 in
theorem ct_Mo_isWord3 (l : Launch) (D : va_G) (cI cZ : ClassId) (sz : Nat) (o : Nat) (mth : Nat) (mty : Nat) (x0 : Nat) (mat : Nat) (mfr : Nat) (mto : Nat) (mgd : Bool) (mrd : Nat) (x1 : Nat) (x2 : Nat) (x3 : Nat) (mhf : Bool) (mhp : Bool) (mcl : Bool) (mck : Bool) (mba : Nat) (mct : Nat) (x4 : Nat) (x5 : Nat) (x6 : Nat) (x7 : Nat) (x8 : Nat) (mst : Nat) (x9 : Nat) (x10 : Nat) (x11 : Nat) (x12 : Nat) (mtr : Nat) (mrs : Nat) (x13 : Nat) (x14 : Nat) (x15 : Nat) (x16 : Nat) (mwr : Nat) (x17 : Nat) (mfo : Nat) (t : Nat → Nat) (x : Nat) (y : Nat) (z : Nat) (hft : mfr ≤ mto) (hto : mto ≤ 250) (ht : ∀ j, t j < 256) (hx : x < 2 ^ 31) (hy : y < 2 ^ 31) (hz1 : 1 ≤ z) (hz : z < 2 ^ 31) : Met l yn_Mo_isWord (Cond.code yn_Mo_isWord bc_Mo_isWord 5 (some .boolean) :: kx_all) ({ frames := 0, cells := 0, slots := 0, locals := 0 } : Room) (kp [.ref o, .int (nI x), .int (nI y), .int (nI z)] D cI cZ [mo_c o mth mty x0 mat mfr mto mgd mrd x1 x2 x3 mhf mhp mcl mck mba mct x4 x5 x6 x7 x8 mst x9 x10 x11 x12 mtr mrs x13 x14 x15 x16 mwr x17 mfo, ar_n cI x0 250 t] sz) (kr_q (some (.int (kb_i (pt_w3 t mfr mto x y z))))) 0 0 (fun _ => False) := by
  refine kx_met (by decide) (Nat.le_of_ble_eq_true rfl) ?_
  intro p e s m below meth c ls hx hb hr hml hts hown hlocks hin hsz hP hK hD hN hl
  have hown : s.vm.findClass rn_Mo = some m.cls := hown
  have hl : lv_has ls 5 [(0, .ref o), (1, .int (nI x)), (2, .int (nI y)), (3, .int (nI z))] := hl
  refine lv_iload_n hx hb dc_Mo_isWord_0 rfl (lv_at hl 3 rfl) ?_
  refine lv_if_le hx hb dc_Mo_isWord_1 rfl (fun hc1 => ?_) (fun hc1 => ?_)
  · exact absurd hc1 (nI_nle hz1 hz)
  · refine lv_iconst (v := nI 3) hx hb dc_Mo_isWord_4 (by decide +kernel) ?_
    refine lv_goto hx hb dc_Mo_isWord_5 rfl ?_
    refine lv_istore (lv' := [(4, .int (nI 3)), (0, .ref o), (1, .int (nI x)), (2, .int (nI y)), (3, .int (nI z))]) hx hb dc_Mo_isWord_9 hl (by decide) rfl (fun ls hl => ?_)
    refine lv_aload_n hx hb dc_Mo_isWord_11 rfl (lv_at hl 1 rfl) ?_
    refine va_get (ci := 10) (v := .int (nI mto)) (C := rn_Mo) (T := fd_Mo) (N := 36) hx hb hts in_Mo hown hK hP 0 rfl rfl 5 (by decide) (hts _ wd_751) (fun _ h9 => h9) rfl dc_Mo_isWord_12 ?_
    refine lv_aload_n hx hb dc_Mo_isWord_15 rfl (lv_at hl 1 rfl) ?_
    refine va_get (ci := 10) (v := .int (nI mfr)) (C := rn_Mo) (T := fd_Mo) (N := 36) hx hb hts in_Mo hown hK hP 0 rfl rfl 4 (by decide) (hts _ wd_750) (fun _ h9 => h9) rfl dc_Mo_isWord_16 ?_
    refine kn_isub hx hb (by omega) dc_Mo_isWord_19 ?_
    refine lv_iload hx hb dc_Mo_isWord_20 (lv_at hl 0 rfl) ?_
    refine kn_icmp_ne hx hb (by omega) (by omega) dc_Mo_isWord_22 rfl (fun hc22 => ?_) (fun hc22 => ?_)
    · refine lv_iconst (v := nI 0) hx hb dc_Mo_isWord_78 (by decide +kernel) ?_
      refine kn_top (y := kb_i false) (by decide +kernel) ?_
      exact kr_zret hx hb hr hlocks dc_Mo_isWord_79 ((decide_eq_false (fun q => hc22 q.1)).symm)
    · refine lv_aload_n hx hb dc_Mo_isWord_25 rfl (lv_at hl 1 rfl) ?_
      refine va_get (ci := 10) (v := .ref x0) (C := rn_Mo) (T := fd_Mo) (N := 36) hx hb hts in_Mo hown hK hP 0 rfl rfl 2 (by decide) (hts _ wd_748) (fun _ h9 => h9) rfl dc_Mo_isWord_26 ?_
      refine lv_aload_n hx hb dc_Mo_isWord_29 rfl (lv_at hl 1 rfl) ?_
      refine va_get (ci := 10) (v := .int (nI mfr)) (C := rn_Mo) (T := fd_Mo) (N := 36) hx hb hts in_Mo hown hK hP 0 rfl rfl 4 (by decide) (hts _ wd_750) (fun _ h9 => h9) rfl dc_Mo_isWord_30 ?_
      refine ka_nald (t := t) hx hb hK hP 1 0 rfl rfl (j := mfr) (by omega) (by omega) dc_Mo_isWord_33 ?_
      refine lv_iload_n hx hb dc_Mo_isWord_34 rfl (lv_at hl 2 rfl) ?_
      refine kn_icmp_ne hx hb (Nat.lt_trans (ht (mfr)) (by decide)) (by omega) dc_Mo_isWord_35 rfl (fun hc35 => ?_) (fun hc35 => ?_)
      · refine lv_iconst (v := nI 0) hx hb dc_Mo_isWord_78 (by decide +kernel) ?_
        refine kn_top (y := kb_i false) (by decide +kernel) ?_
        exact kr_zret hx hb hr hlocks dc_Mo_isWord_79 ((decide_eq_false (fun q => hc35 q.2.1)).symm)
      · refine lv_iload hx hb dc_Mo_isWord_38 (lv_at hl 0 rfl) ?_
        refine lv_iconst (v := nI 1) hx hb dc_Mo_isWord_40 (by decide +kernel) ?_
        refine kn_icmp_eq hx hb (by omega) (by omega) dc_Mo_isWord_41 rfl (fun hc41 => ?_) (fun hc41 => ?_)
        · exfalso; omega
        · refine lv_aload_n hx hb dc_Mo_isWord_44 rfl (lv_at hl 1 rfl) ?_
          refine va_get (ci := 10) (v := .ref x0) (C := rn_Mo) (T := fd_Mo) (N := 36) hx hb hts in_Mo hown hK hP 0 rfl rfl 2 (by decide) (hts _ wd_748) (fun _ h9 => h9) rfl dc_Mo_isWord_45 ?_
          refine lv_aload_n hx hb dc_Mo_isWord_48 rfl (lv_at hl 1 rfl) ?_
          refine va_get (ci := 10) (v := .int (nI mfr)) (C := rn_Mo) (T := fd_Mo) (N := 36) hx hb hts in_Mo hown hK hP 0 rfl rfl 4 (by decide) (hts _ wd_750) (fun _ h9 => h9) rfl dc_Mo_isWord_49 ?_
          refine lv_iconst (v := nI 1) hx hb dc_Mo_isWord_52 (by decide +kernel) ?_
          refine kn_iadd hx hb dc_Mo_isWord_53 ?_
          refine ka_nald (t := t) hx hb hK hP 1 0 rfl rfl (j := mfr + 1) (by omega) (by omega) dc_Mo_isWord_54 ?_
          refine lv_iload_n hx hb dc_Mo_isWord_55 rfl (lv_at hl 3 rfl) ?_
          refine kn_icmp_ne hx hb (Nat.lt_trans (ht (mfr + 1)) (by decide)) (by omega) dc_Mo_isWord_56 rfl (fun hc56 => ?_) (fun hc56 => ?_)
          · refine lv_iconst (v := nI 0) hx hb dc_Mo_isWord_78 (by decide +kernel) ?_
            refine kn_top (y := kb_i false) (by decide +kernel) ?_
            exact kr_zret hx hb hr hlocks dc_Mo_isWord_79 ((decide_eq_false (fun q => hc56 q.2.2.1)).symm)
          · refine lv_aload_n hx hb dc_Mo_isWord_59 rfl (lv_at hl 1 rfl) ?_
            refine va_get (ci := 10) (v := .ref x0) (C := rn_Mo) (T := fd_Mo) (N := 36) hx hb hts in_Mo hown hK hP 0 rfl rfl 2 (by decide) (hts _ wd_748) (fun _ h9 => h9) rfl dc_Mo_isWord_60 ?_
            refine lv_aload_n hx hb dc_Mo_isWord_63 rfl (lv_at hl 1 rfl) ?_
            refine va_get (ci := 10) (v := .int (nI mfr)) (C := rn_Mo) (T := fd_Mo) (N := 36) hx hb hts in_Mo hown hK hP 0 rfl rfl 4 (by decide) (hts _ wd_750) (fun _ h9 => h9) rfl dc_Mo_isWord_64 ?_
            refine lv_iconst (v := nI 2) hx hb dc_Mo_isWord_67 (by decide +kernel) ?_
            refine kn_iadd hx hb dc_Mo_isWord_68 ?_
            refine ka_nald (t := t) hx hb hK hP 1 0 rfl rfl (j := mfr + 2) (by omega) (by omega) dc_Mo_isWord_69 ?_
            refine lv_iload_n hx hb dc_Mo_isWord_70 rfl (lv_at hl 4 rfl) ?_
            refine kn_icmp_ne hx hb (Nat.lt_trans (ht (mfr + 2)) (by decide)) (by omega) dc_Mo_isWord_71 rfl (fun hc71 => ?_) (fun hc71 => ?_)
            · refine lv_iconst (v := nI 0) hx hb dc_Mo_isWord_78 (by decide +kernel) ?_
              refine kn_top (y := kb_i false) (by decide +kernel) ?_
              exact kr_zret hx hb hr hlocks dc_Mo_isWord_79 ((decide_eq_false (fun q => hc71 q.2.2.2)).symm)
            · refine lv_iconst (v := nI 1) hx hb dc_Mo_isWord_74 (by decide +kernel) ?_
              refine lv_goto hx hb dc_Mo_isWord_75 rfl ?_
              refine kn_top (y := kb_i true) (by decide +kernel) ?_
              exact kr_zret hx hb hr hlocks dc_Mo_isWord_79 ((decide_eq_true ⟨hc22, hc35, hc56, hc71⟩).symm)

set_option maxHeartbeats 4000000 in
set_option maxRecDepth 100000 in
theorem ct_Mo_beginClause (l : Launch) (D : va_G) (cI cZ : ClassId) (sz : Nat) (o : Nat) (mth : Nat) (mty : Nat) (x0 : Nat) (mat : Nat) (mfr : Nat) (mto : Nat) (mgd : Bool) (mrd : Nat) (x1 : Nat) (x2 : Nat) (x3 : Nat) (mhf : Bool) (mhp : Bool) (mcl : Bool) (mck : Bool) (mba : Nat) (mct : Nat) (x4 : Nat) (x5 : Nat) (x6 : Nat) (x7 : Nat) (x8 : Nat) (mst : Nat) (x9 : Nat) (x10 : Nat) (x11 : Nat) (x12 : Nat) (mtr : Nat) (mrs : Nat) (x13 : Nat) (x14 : Nat) (x15 : Nat) (x16 : Nat) (mwr : Nat) (x17 : Nat) (mfo : Nat) (rz : Nat → Nat) (rd : Nat → Bool) (d : Bool) (hgd : mgd = true) (hrd : mrd < 16) : Met l yn_Mo_beginClause (Cond.code yn_Mo_beginClause bc_Mo_beginClause 2 none :: kx_all) ({ frames := 0, cells := 0, slots := 0, locals := 0 } : Room) (kp [.ref o, .int (kb_i d)] D cI cZ [mo_c o mth mty x0 mat mfr mto mgd mrd x1 x2 x3 mhf mhp mcl mck mba mct x4 x5 x6 x7 x8 mst x9 x10 x11 x12 mtr mrs x13 x14 x15 x16 mwr x17 mfo, ar_n cI x1 16 rz, ar_b cZ x3 16 rd] sz) (kw_q none D kc_l [mo_c o mth mty x0 mat mfr mto true mrd x1 x2 x3 mhf mhp mcl mck mba mct x4 x5 x6 x7 x8 mst x9 x10 x11 x12 mtr mrs x13 x14 x15 x16 mwr x17 mfo, ar_n cI x1 16 (va_up rz mrd 0), ar_b cZ x3 16 (va_up rd mrd d)] (va_A [mo_c o mth mty x0 mat mfr mto mgd mrd x1 x2 x3 mhf mhp mcl mck mba mct x4 x5 x6 x7 x8 mst x9 x10 x11 x12 mtr mrs x13 x14 x15 x16 mwr x17 mfo, ar_n cI x1 16 rz, ar_b cZ x3 16 rd] sz)) 0 0 (va_A [mo_c o mth mty x0 mat mfr mto mgd mrd x1 x2 x3 mhf mhp mcl mck mba mct x4 x5 x6 x7 x8 mst x9 x10 x11 x12 mtr mrs x13 x14 x15 x16 mwr x17 mfo, ar_n cI x1 16 rz, ar_b cZ x3 16 rd] sz) := by
  refine kx_metW (by decide) (Nat.le_of_ble_eq_true rfl) ?_
  intro p e s m below meth c ls A hx hb hr hml hts hown hlocks hin hA hP hK hD hN hl hS
  have hown : s.vm.findClass rn_Mo = some m.cls := hown
  have hl : lv_has ls 2 [(0, .ref o), (1, .int (kb_i d))] := hl
  refine lv_aload_n hx hb dc_Mo_beginClause_0 rfl (lv_at hl 0 rfl) ?_
  refine lv_aload_n hx hb dc_Mo_beginClause_1 rfl (lv_at hl 0 rfl) ?_
  refine va_get (ci := 10) (v := .int (kb_i mgd)) (C := rn_Mo) (T := fd_Mo) (N := 36) hx hb hts in_Mo hown hK hP 0 rfl rfl 6 (by decide) (hts _ wd_752) (fun _ h9 => h9) rfl dc_Mo_beginClause_2 ?_
  refine kb_if_eq hx hb dc_Mo_beginClause_5 rfl (fun hc5 => ?_) (fun hc5 => ?_)
  · exact absurd hc5 (by rw [hgd]; decide)
  · refine lv_aload_n hx hb dc_Mo_beginClause_8 rfl (lv_at hl 0 rfl) ?_
    refine va_get (ci := 10) (v := .int (nI mrd)) (C := rn_Mo) (T := fd_Mo) (N := 36) hx hb hts in_Mo hown hK hP 0 rfl rfl 7 (by decide) (hts _ wd_753) (fun _ h9 => h9) rfl dc_Mo_beginClause_9 ?_
    refine lv_bipush (v := nI 16) hx hb dc_Mo_beginClause_12 (by decide +kernel) ?_
    refine kn_icmp_ge hx hb (by omega) (by omega) dc_Mo_beginClause_14 rfl (fun hc14 => ?_) (fun hc14 => ?_)
    · exfalso; omega
    · refine lv_iconst (v := nI 1) hx hb dc_Mo_beginClause_17 (by decide +kernel) ?_
      refine lv_goto hx hb dc_Mo_beginClause_18 rfl ?_
      refine kn_top (y := kb_i true) (by decide +kernel) ?_
      refine va_put (ci := 10) (v := .int (kb_i true)) (ty := .boolean) (C := rn_Mo) (T := fd_Mo) (N := 36) hx hb hts in_Mo ty_Mo tk_Mo nm_Mo hown hK hP hD hS 0 rfl rfl 6 (by decide) (hts _ wd_752) (fun _ h9 => h9) rfl (by decide +kernel) (kb_nar _) (kb_fit _) (Nat.le_of_ble_eq_true rfl) dc_Mo_beginClause_22 (fun H locs hP hD hS => ?_)
      have hP : va_P D kc_l [mo_c o mth mty x0 mat mfr mto true mrd x1 x2 x3 mhf mhp mcl mck mba mct x4 x5 x6 x7 x8 mst x9 x10 x11 x12 mtr mrs x13 x14 x15 x16 mwr x17 mfo, ar_n cI x1 16 rz, ar_b cZ x3 16 rd] H := hP
      have hD : va_D A [mo_c o mth mty x0 mat mfr mto true mrd x1 x2 x3 mhf mhp mcl mck mba mct x4 x5 x6 x7 x8 mst x9 x10 x11 x12 mtr mrs x13 x14 x15 x16 mwr x17 mfo, ar_n cI x1 16 rz, ar_b cZ x3 16 rd] := hD
      refine lv_aload_n hx hb dc_Mo_beginClause_25 rfl (lv_at hl 0 rfl) ?_
      refine va_get (ci := 10) (v := .int (kb_i true)) (C := rn_Mo) (T := fd_Mo) (N := 36) hx hb hts in_Mo hown hK hP 0 rfl rfl 6 (by decide) (hts _ wd_752) (fun _ h9 => h9) rfl dc_Mo_beginClause_26 ?_
      refine kb_if_eq hx hb dc_Mo_beginClause_29 rfl (fun hc29 => ?_) (fun hc29 => ?_)
      · exact absurd hc29 (by decide)
      · refine lv_aload_n hx hb dc_Mo_beginClause_32 rfl (lv_at hl 0 rfl) ?_
        refine va_get (ci := 10) (v := .ref x1) (C := rn_Mo) (T := fd_Mo) (N := 36) hx hb hts in_Mo hown hK hP 0 rfl rfl 8 (by decide) (hts _ wd_754) (fun _ h9 => h9) rfl dc_Mo_beginClause_33 ?_
        refine lv_aload_n hx hb dc_Mo_beginClause_36 rfl (lv_at hl 0 rfl) ?_
        refine va_get (ci := 10) (v := .int (nI mrd)) (C := rn_Mo) (T := fd_Mo) (N := 36) hx hb hts in_Mo hown hK hP 0 rfl rfl 7 (by decide) (hts _ wd_753) (fun _ h9 => h9) rfl dc_Mo_beginClause_37 ?_
        refine lv_iconst (v := nI 0) hx hb dc_Mo_beginClause_40 (by decide +kernel) ?_
        refine ka_nast (t := rz) hx hb hK hP hD hS 1 0 rfl rfl (j := mrd) (by omega) (by omega) dc_Mo_beginClause_41 (ws' := [mo_c o mth mty x0 mat mfr mto true mrd x1 x2 x3 mhf mhp mcl mck mba mct x4 x5 x6 x7 x8 mst x9 x10 x11 x12 mtr mrs x13 x14 x15 x16 mwr x17 mfo, ar_n cI x1 16 (va_up rz mrd 0), ar_b cZ x3 16 rd]) rfl (fun H locs hP hD hS => ?_)
        refine lv_aload_n hx hb dc_Mo_beginClause_42 rfl (lv_at hl 0 rfl) ?_
        refine va_get (ci := 10) (v := .ref x3) (C := rn_Mo) (T := fd_Mo) (N := 36) hx hb hts in_Mo hown hK hP 0 rfl rfl 10 (by decide) (hts _ wd_756) (fun _ h9 => h9) rfl dc_Mo_beginClause_43 ?_
        refine lv_aload_n hx hb dc_Mo_beginClause_46 rfl (lv_at hl 0 rfl) ?_
        refine va_get (ci := 10) (v := .int (nI mrd)) (C := rn_Mo) (T := fd_Mo) (N := 36) hx hb hts in_Mo hown hK hP 0 rfl rfl 7 (by decide) (hts _ wd_753) (fun _ h9 => h9) rfl dc_Mo_beginClause_47 ?_
        refine lv_iload_n hx hb dc_Mo_beginClause_50 rfl (lv_at hl 1 rfl) ?_
        refine ka_bast (t := rd) hx hb hK hP hD hS 2 1 rfl rfl (j := mrd) (by omega) (by omega) dc_Mo_beginClause_51 (ws' := [mo_c o mth mty x0 mat mfr mto true mrd x1 x2 x3 mhf mhp mcl mck mba mct x4 x5 x6 x7 x8 mst x9 x10 x11 x12 mtr mrs x13 x14 x15 x16 mwr x17 mfo, ar_n cI x1 16 (va_up rz mrd 0), ar_b cZ x3 16 (va_up rd mrd d)]) rfl (fun H locs hP hD hS => ?_)
        exact kw_vret hx hb hr hlocks hP hD hS dc_Mo_beginClause_52 (rfl)

set_option maxHeartbeats 4000000 in
set_option maxRecDepth 100000 in
theorem ct_Mo_beginClause_full (l : Launch) (D : va_G) (cI cZ : ClassId) (sz : Nat) (o : Nat) (mth : Nat) (mty : Nat) (x0 : Nat) (mat : Nat) (mfr : Nat) (mto : Nat) (mgd : Bool) (mrd : Nat) (x1 : Nat) (x2 : Nat) (x3 : Nat) (mhf : Bool) (mhp : Bool) (mcl : Bool) (mck : Bool) (mba : Nat) (mct : Nat) (x4 : Nat) (x5 : Nat) (x6 : Nat) (x7 : Nat) (x8 : Nat) (mst : Nat) (x9 : Nat) (x10 : Nat) (x11 : Nat) (x12 : Nat) (mtr : Nat) (mrs : Nat) (x13 : Nat) (x14 : Nat) (x15 : Nat) (x16 : Nat) (mwr : Nat) (x17 : Nat) (mfo : Nat) (d : Bool) (hgd : mgd = true) (hrd : 16 ≤ mrd) (hr2 : mrd < 2 ^ 31) : Met l yn_Mo_beginClause (Cond.code yn_Mo_beginClause bc_Mo_beginClause 2 none :: kx_all) ({ frames := 0, cells := 0, slots := 0, locals := 0 } : Room) (kp [.ref o, .int (kb_i d)] D cI cZ [mo_c o mth mty x0 mat mfr mto mgd mrd x1 x2 x3 mhf mhp mcl mck mba mct x4 x5 x6 x7 x8 mst x9 x10 x11 x12 mtr mrs x13 x14 x15 x16 mwr x17 mfo] sz) (kw_q none D kc_l [mo_c o mth mty x0 mat mfr mto false mrd x1 x2 x3 mhf mhp mcl mck mba mct x4 x5 x6 x7 x8 mst x9 x10 x11 x12 mtr mrs x13 x14 x15 x16 mwr x17 mfo] (va_A [mo_c o mth mty x0 mat mfr mto mgd mrd x1 x2 x3 mhf mhp mcl mck mba mct x4 x5 x6 x7 x8 mst x9 x10 x11 x12 mtr mrs x13 x14 x15 x16 mwr x17 mfo] sz)) 0 0 (va_A [mo_c o mth mty x0 mat mfr mto mgd mrd x1 x2 x3 mhf mhp mcl mck mba mct x4 x5 x6 x7 x8 mst x9 x10 x11 x12 mtr mrs x13 x14 x15 x16 mwr x17 mfo] sz) := by
  refine kx_metW (by decide) (Nat.le_of_ble_eq_true rfl) ?_
  intro p e s m below meth c ls A hx hb hr hml hts hown hlocks hin hA hP hK hD hN hl hS
  have hown : s.vm.findClass rn_Mo = some m.cls := hown
  have hl : lv_has ls 2 [(0, .ref o), (1, .int (kb_i d))] := hl
  refine lv_aload_n hx hb dc_Mo_beginClause_0 rfl (lv_at hl 0 rfl) ?_
  refine lv_aload_n hx hb dc_Mo_beginClause_1 rfl (lv_at hl 0 rfl) ?_
  refine va_get (ci := 10) (v := .int (kb_i mgd)) (C := rn_Mo) (T := fd_Mo) (N := 36) hx hb hts in_Mo hown hK hP 0 rfl rfl 6 (by decide) (hts _ wd_752) (fun _ h9 => h9) rfl dc_Mo_beginClause_2 ?_
  refine kb_if_eq hx hb dc_Mo_beginClause_5 rfl (fun hc5 => ?_) (fun hc5 => ?_)
  · exact absurd hc5 (by rw [hgd]; decide)
  · refine lv_aload_n hx hb dc_Mo_beginClause_8 rfl (lv_at hl 0 rfl) ?_
    refine va_get (ci := 10) (v := .int (nI mrd)) (C := rn_Mo) (T := fd_Mo) (N := 36) hx hb hts in_Mo hown hK hP 0 rfl rfl 7 (by decide) (hts _ wd_753) (fun _ h9 => h9) rfl dc_Mo_beginClause_9 ?_
    refine lv_bipush (v := nI 16) hx hb dc_Mo_beginClause_12 (by decide +kernel) ?_
    refine kn_icmp_ge hx hb (by omega) (by omega) dc_Mo_beginClause_14 rfl (fun hc14 => ?_) (fun hc14 => ?_)
    · refine lv_iconst (v := nI 0) hx hb dc_Mo_beginClause_21 (by decide +kernel) ?_
      refine kn_top (y := kb_i false) (by decide +kernel) ?_
      refine va_put (ci := 10) (v := .int (kb_i false)) (ty := .boolean) (C := rn_Mo) (T := fd_Mo) (N := 36) hx hb hts in_Mo ty_Mo tk_Mo nm_Mo hown hK hP hD hS 0 rfl rfl 6 (by decide) (hts _ wd_752) (fun _ h9 => h9) rfl (by decide +kernel) (kb_nar _) (kb_fit _) (Nat.le_of_ble_eq_true rfl) dc_Mo_beginClause_22 (fun H locs hP hD hS => ?_)
      have hP : va_P D kc_l [mo_c o mth mty x0 mat mfr mto false mrd x1 x2 x3 mhf mhp mcl mck mba mct x4 x5 x6 x7 x8 mst x9 x10 x11 x12 mtr mrs x13 x14 x15 x16 mwr x17 mfo] H := hP
      have hD : va_D A [mo_c o mth mty x0 mat mfr mto false mrd x1 x2 x3 mhf mhp mcl mck mba mct x4 x5 x6 x7 x8 mst x9 x10 x11 x12 mtr mrs x13 x14 x15 x16 mwr x17 mfo] := hD
      refine lv_aload_n hx hb dc_Mo_beginClause_25 rfl (lv_at hl 0 rfl) ?_
      refine va_get (ci := 10) (v := .int (kb_i false)) (C := rn_Mo) (T := fd_Mo) (N := 36) hx hb hts in_Mo hown hK hP 0 rfl rfl 6 (by decide) (hts _ wd_752) (fun _ h9 => h9) rfl dc_Mo_beginClause_26 ?_
      refine kb_if_eq hx hb dc_Mo_beginClause_29 rfl (fun hc29 => ?_) (fun hc29 => ?_)
      · exact kw_vret hx hb hr hlocks hP hD hS dc_Mo_beginClause_52 (rfl)
      · exact absurd hc29 (by decide)
    · exfalso; omega

set_option maxHeartbeats 4000000 in
set_option maxRecDepth 100000 in
theorem ct_Mo_beginClause_bad (l : Launch) (D : va_G) (cI cZ : ClassId) (sz : Nat) (o : Nat) (mth : Nat) (mty : Nat) (x0 : Nat) (mat : Nat) (mfr : Nat) (mto : Nat) (mgd : Bool) (mrd : Nat) (x1 : Nat) (x2 : Nat) (x3 : Nat) (mhf : Bool) (mhp : Bool) (mcl : Bool) (mck : Bool) (mba : Nat) (mct : Nat) (x4 : Nat) (x5 : Nat) (x6 : Nat) (x7 : Nat) (x8 : Nat) (mst : Nat) (x9 : Nat) (x10 : Nat) (x11 : Nat) (x12 : Nat) (mtr : Nat) (mrs : Nat) (x13 : Nat) (x14 : Nat) (x15 : Nat) (x16 : Nat) (mwr : Nat) (x17 : Nat) (mfo : Nat) (d : Bool) (hgd : mgd = false) : Met l yn_Mo_beginClause (Cond.code yn_Mo_beginClause bc_Mo_beginClause 2 none :: kx_all) ({ frames := 0, cells := 0, slots := 0, locals := 0 } : Room) (kp [.ref o, .int (kb_i d)] D cI cZ [mo_c o mth mty x0 mat mfr mto mgd mrd x1 x2 x3 mhf mhp mcl mck mba mct x4 x5 x6 x7 x8 mst x9 x10 x11 x12 mtr mrs x13 x14 x15 x16 mwr x17 mfo] sz) (kw_q none D kc_l [mo_c o mth mty x0 mat mfr mto false mrd x1 x2 x3 mhf mhp mcl mck mba mct x4 x5 x6 x7 x8 mst x9 x10 x11 x12 mtr mrs x13 x14 x15 x16 mwr x17 mfo] (va_A [mo_c o mth mty x0 mat mfr mto mgd mrd x1 x2 x3 mhf mhp mcl mck mba mct x4 x5 x6 x7 x8 mst x9 x10 x11 x12 mtr mrs x13 x14 x15 x16 mwr x17 mfo] sz)) 0 0 (va_A [mo_c o mth mty x0 mat mfr mto mgd mrd x1 x2 x3 mhf mhp mcl mck mba mct x4 x5 x6 x7 x8 mst x9 x10 x11 x12 mtr mrs x13 x14 x15 x16 mwr x17 mfo] sz) := by
  refine kx_metW (by decide) (Nat.le_of_ble_eq_true rfl) ?_
  intro p e s m below meth c ls A hx hb hr hml hts hown hlocks hin hA hP hK hD hN hl hS
  have hown : s.vm.findClass rn_Mo = some m.cls := hown
  have hl : lv_has ls 2 [(0, .ref o), (1, .int (kb_i d))] := hl
  refine lv_aload_n hx hb dc_Mo_beginClause_0 rfl (lv_at hl 0 rfl) ?_
  refine lv_aload_n hx hb dc_Mo_beginClause_1 rfl (lv_at hl 0 rfl) ?_
  refine va_get (ci := 10) (v := .int (kb_i mgd)) (C := rn_Mo) (T := fd_Mo) (N := 36) hx hb hts in_Mo hown hK hP 0 rfl rfl 6 (by decide) (hts _ wd_752) (fun _ h9 => h9) rfl dc_Mo_beginClause_2 ?_
  refine kb_if_eq hx hb dc_Mo_beginClause_5 rfl (fun hc5 => ?_) (fun hc5 => ?_)
  · refine lv_iconst (v := nI 0) hx hb dc_Mo_beginClause_21 (by decide +kernel) ?_
    refine kn_top (y := kb_i false) (by decide +kernel) ?_
    refine va_put (ci := 10) (v := .int (kb_i false)) (ty := .boolean) (C := rn_Mo) (T := fd_Mo) (N := 36) hx hb hts in_Mo ty_Mo tk_Mo nm_Mo hown hK hP hD hS 0 rfl rfl 6 (by decide) (hts _ wd_752) (fun _ h9 => h9) rfl (by decide +kernel) (kb_nar _) (kb_fit _) (Nat.le_of_ble_eq_true rfl) dc_Mo_beginClause_22 (fun H locs hP hD hS => ?_)
    have hP : va_P D kc_l [mo_c o mth mty x0 mat mfr mto false mrd x1 x2 x3 mhf mhp mcl mck mba mct x4 x5 x6 x7 x8 mst x9 x10 x11 x12 mtr mrs x13 x14 x15 x16 mwr x17 mfo] H := hP
    have hD : va_D A [mo_c o mth mty x0 mat mfr mto false mrd x1 x2 x3 mhf mhp mcl mck mba mct x4 x5 x6 x7 x8 mst x9 x10 x11 x12 mtr mrs x13 x14 x15 x16 mwr x17 mfo] := hD
    refine lv_aload_n hx hb dc_Mo_beginClause_25 rfl (lv_at hl 0 rfl) ?_
    refine va_get (ci := 10) (v := .int (kb_i false)) (C := rn_Mo) (T := fd_Mo) (N := 36) hx hb hts in_Mo hown hK hP 0 rfl rfl 6 (by decide) (hts _ wd_752) (fun _ h9 => h9) rfl dc_Mo_beginClause_26 ?_
    refine kb_if_eq hx hb dc_Mo_beginClause_29 rfl (fun hc29 => ?_) (fun hc29 => ?_)
    · exact kw_vret hx hb hr hlocks hP hD hS dc_Mo_beginClause_52 (rfl)
    · exact absurd hc29 (by decide)
  · exact absurd hc5 (by rw [hgd]; decide)

set_option maxHeartbeats 4000000 in
set_option maxRecDepth 100000 in
theorem ct_Mo_take (l : Launch) (D : va_G) (cI cZ : ClassId) (sz : Nat) (o : Nat) (mth : Nat) (mty : Nat) (x0 : Nat) (mat : Nat) (mfr : Nat) (mto : Nat) (mgd : Bool) (mrd : Nat) (x1 : Nat) (x2 : Nat) (x3 : Nat) (mhf : Bool) (mhp : Bool) (mcl : Bool) (mck : Bool) (mba : Nat) (mct : Nat) (x4 : Nat) (x5 : Nat) (x6 : Nat) (x7 : Nat) (x8 : Nat) (mst : Nat) (x9 : Nat) (x10 : Nat) (x11 : Nat) (x12 : Nat) (mtr : Nat) (mrs : Nat) (x13 : Nat) (x14 : Nat) (x15 : Nat) (x16 : Nat) (mwr : Nat) (x17 : Nat) (mfo : Nat) (rz : Nat → Nat) (rl : Nat → Int32) (b : Nat) (v : Nat) (bb : Nat → Nat) (pm : Nat → Nat) (z : Nat) (hgd : mgd = true) (hrd : mrd < 16) (hb16 : b < 16) (hv8 : v ≤ 8) (hbv : b % 8 + 1 ≤ v) (hz8 : rz mrd < 8) (hrow : pt_row rl (8 * mrd) (rz mrd) bb pm z) (hfr : z &&& (2 ^ (b % 8) ||| 2 ^ (b % 8 + 8)) = 0) : Met l yn_Mo_take (Cond.code yn_Mo_take bc_Mo_take 6 none :: kx_all) ({ frames := 0, cells := 0, slots := 0, locals := 0 } : Room) (kp [.ref o, .int (pt_lit b), .int (nI v)] D cI cZ [mo_c o mth mty x0 mat mfr mto mgd mrd x1 x2 x3 mhf mhp mcl mck mba mct x4 x5 x6 x7 x8 mst x9 x10 x11 x12 mtr mrs x13 x14 x15 x16 mwr x17 mfo, ar_n cI x1 16 rz, ar_i cI x2 128 rl] sz) (kw_q none D kc_l [mo_c o mth mty x0 mat mfr mto true mrd x1 x2 x3 mhf mhp mcl mck mba mct x4 x5 x6 x7 x8 mst x9 x10 x11 x12 mtr mrs x13 x14 x15 x16 mwr x17 mfo, ar_n cI x1 16 (va_up rz mrd (rz mrd + 1)), ar_i cI x2 128 (upd rl (8 * mrd + rz mrd) (pt_lit b))] (va_A [mo_c o mth mty x0 mat mfr mto mgd mrd x1 x2 x3 mhf mhp mcl mck mba mct x4 x5 x6 x7 x8 mst x9 x10 x11 x12 mtr mrs x13 x14 x15 x16 mwr x17 mfo, ar_n cI x1 16 rz, ar_i cI x2 128 rl] sz)) 0 0 (va_A [mo_c o mth mty x0 mat mfr mto mgd mrd x1 x2 x3 mhf mhp mcl mck mba mct x4 x5 x6 x7 x8 mst x9 x10 x11 x12 mtr mrs x13 x14 x15 x16 mwr x17 mfo, ar_n cI x1 16 rz, ar_i cI x2 128 rl] sz) := by
  refine kx_metW (by decide) (Nat.le_of_ble_eq_true rfl) ?_
  intro p e s m below meth c ls A hx hb hr hml hts hown hlocks hin hA hP hK hD hN hl hS
  have hown : s.vm.findClass rn_Mo = some m.cls := hown
  have hl : lv_has ls 6 [(0, .ref o), (1, .int (pt_lit b)), (2, .int (nI v))] := hl
  by_cases h8 : b < 8
  · refine lv_iload_n hx hb dc_Mo_take_0 rfl (lv_at hl 1 rfl) ?_
    refine lv_if_ge hx hb dc_Mo_take_1 rfl (fun hc1 => ?_) (fun hc1 => ?_)
    · refine lv_iload_n hx hb dc_Mo_take_9 rfl (lv_at hl 1 rfl) ?_
      refine kn_top (y := nI (b % 8 + 1)) (lit_ap b h8) ?_
      refine lv_istore_n (lv' := [(3, .int (nI (b % 8 + 1))), (0, .ref o), (1, .int (pt_lit b)), (2, .int (nI v))]) hx hb dc_Mo_take_10 rfl hl (by decide) rfl (fun ls hl => ?_)
      refine lv_aload_n hx hb dc_Mo_take_11 rfl (lv_at hl 1 rfl) ?_
      refine lv_aload_n hx hb dc_Mo_take_12 rfl (lv_at hl 1 rfl) ?_
      refine va_get (ci := 10) (v := .int (kb_i mgd)) (C := rn_Mo) (T := fd_Mo) (N := 36) hx hb hts in_Mo hown hK hP 0 rfl rfl 6 (by decide) (hts _ wd_752) (fun _ h9 => h9) rfl dc_Mo_take_13 ?_
      refine kb_if_eq hx hb dc_Mo_take_16 rfl (fun hc16 => ?_) (fun hc16 => ?_)
      · exact absurd hc16 (by rw [hgd]; decide)
      · refine lv_iload_n hx hb dc_Mo_take_19 rfl (lv_at hl 0 rfl) ?_
        refine lv_iconst (v := nI 1) hx hb dc_Mo_take_20 (by decide +kernel) ?_
        refine kn_icmp_lt hx hb (by omega) (by omega) dc_Mo_take_21 rfl (fun hc21 => ?_) (fun hc21 => ?_)
        · exfalso; omega
        · refine lv_iload_n hx hb dc_Mo_take_24 rfl (lv_at hl 0 rfl) ?_
          refine lv_iload_n hx hb dc_Mo_take_25 rfl (lv_at hl 3 rfl) ?_
          refine kn_icmp_gt hx hb (by omega) (by omega) dc_Mo_take_26 rfl (fun hc26 => ?_) (fun hc26 => ?_)
          · exfalso; omega
          · refine lv_iconst (v := nI 1) hx hb dc_Mo_take_29 (by decide +kernel) ?_
            refine lv_goto hx hb dc_Mo_take_30 rfl ?_
            refine kn_top (y := kb_i true) (by decide +kernel) ?_
            refine va_put (ci := 10) (v := .int (kb_i true)) (ty := .boolean) (C := rn_Mo) (T := fd_Mo) (N := 36) hx hb hts in_Mo ty_Mo tk_Mo nm_Mo hown hK hP hD hS 0 rfl rfl 6 (by decide) (hts _ wd_752) (fun _ h9 => h9) rfl (by decide +kernel) (kb_nar _) (kb_fit _) (Nat.le_of_ble_eq_true rfl) dc_Mo_take_34 (fun H locs hP hD hS => ?_)
            have hP : va_P D kc_l [mo_c o mth mty x0 mat mfr mto true mrd x1 x2 x3 mhf mhp mcl mck mba mct x4 x5 x6 x7 x8 mst x9 x10 x11 x12 mtr mrs x13 x14 x15 x16 mwr x17 mfo, ar_n cI x1 16 rz, ar_i cI x2 128 rl] H := hP
            have hD : va_D A [mo_c o mth mty x0 mat mfr mto true mrd x1 x2 x3 mhf mhp mcl mck mba mct x4 x5 x6 x7 x8 mst x9 x10 x11 x12 mtr mrs x13 x14 x15 x16 mwr x17 mfo, ar_n cI x1 16 rz, ar_i cI x2 128 rl] := hD
            refine lv_iconst (v := nI 0) hx hb dc_Mo_take_37 (by decide +kernel) ?_
            refine lv_istore (lv' := [(4, .int (nI 0)), (3, .int (nI (b % 8 + 1))), (0, .ref o), (1, .int (pt_lit b)), (2, .int (nI v))]) hx hb dc_Mo_take_38 hl (by decide) rfl (fun ls hl => ?_)
            have lp_40 : ∀ (K : Nat) (k : Nat) (H : Heap) (locs : List Loc) (ls : Array Slot), rz mrd - k < K → va_P D kc_l [mo_c o mth mty x0 mat mfr mto true mrd x1 x2 x3 mhf mhp mcl mck mba mct x4 x5 x6 x7 x8 mst x9 x10 x11 x12 mtr mrs x13 x14 x15 x16 mwr x17 mfo, ar_n cI x1 16 rz, ar_i cI x2 128 rl] H → va_D A [mo_c o mth mty x0 mat mfr mto true mrd x1 x2 x3 mhf mhp mcl mck mba mct x4 x5 x6 x7 x8 mst x9 x10 x11 x12 mtr mrs x13 x14 x15 x16 mwr x17 mfo, ar_n cI x1 16 rz, ar_i cI x2 128 rl] → va_S A s.heap H locs → lv_has ls 6 [(4, .int (nI k)), (3, .int (nI (b % 8 + 1))), (0, .ref o), (1, .int (pt_lit b)), (2, .int (nI v))] → (k ≤ rz mrd) → W p l e ({ frames := 0, cells := 0, slots := 0, locals := 0 } : Room) s m ([.ref o, .int (pt_lit b), .int (nI v)] : List Value).toArray below meth c H locs 0 0 (MQ below (kw_q none D kc_l [mo_c o mth mty x0 mat mfr mto true mrd x1 x2 x3 mhf mhp mcl mck mba mct x4 x5 x6 x7 x8 mst x9 x10 x11 x12 mtr mrs x13 x14 x15 x16 mwr x17 mfo, ar_n cI x1 16 (va_up rz mrd (rz mrd + 1)), ar_i cI x2 128 (upd rl (8 * mrd + rz mrd) (pt_lit b))] A) ([.ref o, .int (pt_lit b), .int (nI v)] : List Value).toArray s 0 0 A) (F0 m 40 ls []) := by
              intro K
              induction K with
              | zero =>
                intro k H locs ls hk
                exact absurd hk (Nat.not_lt_zero _)
              | succ K ih_40 =>
                intro k H locs ls hk hP hD hS hl h2
                refine lv_iload hx hb dc_Mo_take_40 (lv_at hl 0 rfl) ?_
                refine lv_aload_n hx hb dc_Mo_take_42 rfl (lv_at hl 2 rfl) ?_
                refine va_get (ci := 10) (v := .ref x1) (C := rn_Mo) (T := fd_Mo) (N := 36) hx hb hts in_Mo hown hK hP 0 rfl rfl 8 (by decide) (hts _ wd_754) (fun _ h9 => h9) rfl dc_Mo_take_43 ?_
                refine lv_aload_n hx hb dc_Mo_take_46 rfl (lv_at hl 2 rfl) ?_
                refine va_get (ci := 10) (v := .int (nI mrd)) (C := rn_Mo) (T := fd_Mo) (N := 36) hx hb hts in_Mo hown hK hP 0 rfl rfl 7 (by decide) (hts _ wd_753) (fun _ h9 => h9) rfl dc_Mo_take_47 ?_
                refine ka_nald (t := rz) hx hb hK hP 1 0 rfl rfl (j := mrd) (by omega) (by omega) dc_Mo_take_50 ?_
                refine kn_icmp_ge hx hb (by omega) (by omega) dc_Mo_take_51 rfl (fun hc51 => ?_) (fun hc51 => ?_)
                · refine lv_aload_n hx hb dc_Mo_take_106 rfl (lv_at hl 2 rfl) ?_
                  refine va_get (ci := 10) (v := .int (kb_i true)) (C := rn_Mo) (T := fd_Mo) (N := 36) hx hb hts in_Mo hown hK hP 0 rfl rfl 6 (by decide) (hts _ wd_752) (fun _ h9 => h9) rfl dc_Mo_take_107 ?_
                  refine kb_if_eq hx hb dc_Mo_take_110 rfl (fun hc110 => ?_) (fun hc110 => ?_)
                  · exact absurd hc110 (by decide)
                  · refine lv_aload_n hx hb dc_Mo_take_113 rfl (lv_at hl 2 rfl) ?_
                    refine va_get (ci := 10) (v := .ref x2) (C := rn_Mo) (T := fd_Mo) (N := 36) hx hb hts in_Mo hown hK hP 0 rfl rfl 9 (by decide) (hts _ wd_755) (fun _ h9 => h9) rfl dc_Mo_take_114 ?_
                    refine lv_bipush (v := nI 8) hx hb dc_Mo_take_117 (by decide +kernel) ?_
                    refine lv_aload_n hx hb dc_Mo_take_119 rfl (lv_at hl 2 rfl) ?_
                    refine va_get (ci := 10) (v := .int (nI mrd)) (C := rn_Mo) (T := fd_Mo) (N := 36) hx hb hts in_Mo hown hK hP 0 rfl rfl 7 (by decide) (hts _ wd_753) (fun _ h9 => h9) rfl dc_Mo_take_120 ?_
                    refine kn_imul hx hb dc_Mo_take_123 ?_
                    refine lv_aload_n hx hb dc_Mo_take_124 rfl (lv_at hl 2 rfl) ?_
                    refine va_get (ci := 10) (v := .ref x1) (C := rn_Mo) (T := fd_Mo) (N := 36) hx hb hts in_Mo hown hK hP 0 rfl rfl 8 (by decide) (hts _ wd_754) (fun _ h9 => h9) rfl dc_Mo_take_125 ?_
                    refine lv_aload_n hx hb dc_Mo_take_128 rfl (lv_at hl 2 rfl) ?_
                    refine va_get (ci := 10) (v := .int (nI mrd)) (C := rn_Mo) (T := fd_Mo) (N := 36) hx hb hts in_Mo hown hK hP 0 rfl rfl 7 (by decide) (hts _ wd_753) (fun _ h9 => h9) rfl dc_Mo_take_129 ?_
                    refine ka_nald (t := rz) hx hb hK hP 1 0 rfl rfl (j := mrd) (by omega) (by omega) dc_Mo_take_132 ?_
                    refine kn_iadd hx hb dc_Mo_take_133 ?_
                    refine lv_iload_n hx hb dc_Mo_take_134 rfl (lv_at hl 3 rfl) ?_
                    refine ka_iast (f := rl) hx hb hK hP hD hS 2 0 rfl rfl (j := (8 * mrd) + (rz mrd)) (by omega) (by omega) dc_Mo_take_135 (ws' := [mo_c o mth mty x0 mat mfr mto true mrd x1 x2 x3 mhf mhp mcl mck mba mct x4 x5 x6 x7 x8 mst x9 x10 x11 x12 mtr mrs x13 x14 x15 x16 mwr x17 mfo, ar_n cI x1 16 rz, ar_i cI x2 128 (upd rl ((8 * mrd) + (rz mrd)) (pt_lit b))]) rfl (fun H locs hP hD hS => ?_)
                    refine lv_aload_n hx hb dc_Mo_take_136 rfl (lv_at hl 2 rfl) ?_
                    refine va_get (ci := 10) (v := .ref x1) (C := rn_Mo) (T := fd_Mo) (N := 36) hx hb hts in_Mo hown hK hP 0 rfl rfl 8 (by decide) (hts _ wd_754) (fun _ h9 => h9) rfl dc_Mo_take_137 ?_
                    refine lv_aload_n hx hb dc_Mo_take_140 rfl (lv_at hl 2 rfl) ?_
                    refine va_get (ci := 10) (v := .int (nI mrd)) (C := rn_Mo) (T := fd_Mo) (N := 36) hx hb hts in_Mo hown hK hP 0 rfl rfl 7 (by decide) (hts _ wd_753) (fun _ h9 => h9) rfl dc_Mo_take_141 ?_
                    refine lv_dup2_11 hx hb dc_Mo_take_144 rfl rfl ?_
                    refine ka_nald (t := rz) hx hb hK hP 1 0 rfl rfl (j := mrd) (by omega) (by omega) dc_Mo_take_145 ?_
                    refine lv_iconst (v := nI 1) hx hb dc_Mo_take_146 (by decide +kernel) ?_
                    refine kn_iadd hx hb dc_Mo_take_147 ?_
                    refine ka_nast (t := rz) hx hb hK hP hD hS 1 0 rfl rfl (j := mrd) (by omega) (by omega) dc_Mo_take_148 (ws' := [mo_c o mth mty x0 mat mfr mto true mrd x1 x2 x3 mhf mhp mcl mck mba mct x4 x5 x6 x7 x8 mst x9 x10 x11 x12 mtr mrs x13 x14 x15 x16 mwr x17 mfo, ar_n cI x1 16 (va_up rz mrd ((rz mrd) + 1)), ar_i cI x2 128 (upd rl ((8 * mrd) + (rz mrd)) (pt_lit b))]) rfl (fun H locs hP hD hS => ?_)
                    exact kw_vret hx hb hr hlocks hP hD hS dc_Mo_take_149 (rfl)
                · refine lv_aload_n hx hb dc_Mo_take_54 rfl (lv_at hl 2 rfl) ?_
                  refine va_get (ci := 10) (v := .int (kb_i true)) (C := rn_Mo) (T := fd_Mo) (N := 36) hx hb hts in_Mo hown hK hP 0 rfl rfl 6 (by decide) (hts _ wd_752) (fun _ h9 => h9) rfl dc_Mo_take_55 ?_
                  refine kb_if_eq hx hb dc_Mo_take_58 rfl (fun hc58 => ?_) (fun hc58 => ?_)
                  · exact absurd hc58 (by decide)
                  · refine lv_aload_n hx hb dc_Mo_take_61 rfl (lv_at hl 2 rfl) ?_
                    refine va_get (ci := 10) (v := .ref x2) (C := rn_Mo) (T := fd_Mo) (N := 36) hx hb hts in_Mo hown hK hP 0 rfl rfl 9 (by decide) (hts _ wd_755) (fun _ h9 => h9) rfl dc_Mo_take_62 ?_
                    refine lv_bipush (v := nI 8) hx hb dc_Mo_take_65 (by decide +kernel) ?_
                    refine lv_aload_n hx hb dc_Mo_take_67 rfl (lv_at hl 2 rfl) ?_
                    refine va_get (ci := 10) (v := .int (nI mrd)) (C := rn_Mo) (T := fd_Mo) (N := 36) hx hb hts in_Mo hown hK hP 0 rfl rfl 7 (by decide) (hts _ wd_753) (fun _ h9 => h9) rfl dc_Mo_take_68 ?_
                    refine kn_imul hx hb dc_Mo_take_71 ?_
                    refine lv_iload hx hb dc_Mo_take_72 (lv_at hl 0 rfl) ?_
                    refine kn_iadd hx hb dc_Mo_take_74 ?_
                    refine ka_iald (f := rl) hx hb hK hP 2 0 rfl rfl (j := (8 * mrd) + k) (by omega) (by omega) dc_Mo_take_75 ?_
                    refine kn_top (y := pt_lit (bb k)) (hrow.2.2.2 k (by omega)).2.1 ?_
                    refine lv_istore (lv' := [(5, .int (pt_lit (bb k))), (4, .int (nI k)), (3, .int (nI (b % 8 + 1))), (0, .ref o), (1, .int (pt_lit b)), (2, .int (nI v))]) hx hb dc_Mo_take_76 hl (by decide) rfl (fun ls hl => ?_)
                    refine lv_aload_n hx hb dc_Mo_take_78 rfl (lv_at hl 3 rfl) ?_
                    refine lv_iload hx hb dc_Mo_take_79 (lv_at hl 0 rfl) ?_
                    refine lv_iload_n hx hb dc_Mo_take_81 rfl (lv_at hl 4 rfl) ?_
                    refine lv_icmp_eq hx hb dc_Mo_take_82 rfl (fun hc82 => ?_) (fun hc82 => ?_)
                    · exact absurd (lit_same _ (hrow.2.2.2 k (by omega)).1 b hb16 (Or.inl hc82)) (row_dup hrow hfr k (by omega))
                    · refine lv_iload hx hb dc_Mo_take_85 (lv_at hl 0 rfl) ?_
                      refine lv_iload_n hx hb dc_Mo_take_87 rfl (lv_at hl 4 rfl) ?_
                      refine lv_ineg hx hb dc_Mo_take_88 ?_
                      refine lv_icmp_eq hx hb dc_Mo_take_89 rfl (fun hc89 => ?_) (fun hc89 => ?_)
                      · exact absurd (lit_same _ (hrow.2.2.2 k (by omega)).1 b hb16 (Or.inr hc89)) (row_dup hrow hfr k (by omega))
                      · refine lv_iconst (v := nI 1) hx hb dc_Mo_take_92 (by decide +kernel) ?_
                        refine lv_goto hx hb dc_Mo_take_93 rfl ?_
                        refine kn_top (y := kb_i true) (by decide +kernel) ?_
                        refine va_put (ci := 10) (v := .int (kb_i true)) (ty := .boolean) (C := rn_Mo) (T := fd_Mo) (N := 36) hx hb hts in_Mo ty_Mo tk_Mo nm_Mo hown hK hP hD hS 0 rfl rfl 6 (by decide) (hts _ wd_752) (fun _ h9 => h9) rfl (by decide +kernel) (kb_nar _) (kb_fit _) (Nat.le_of_ble_eq_true rfl) dc_Mo_take_97 (fun H locs hP hD hS => ?_)
                        have hP : va_P D kc_l [mo_c o mth mty x0 mat mfr mto true mrd x1 x2 x3 mhf mhp mcl mck mba mct x4 x5 x6 x7 x8 mst x9 x10 x11 x12 mtr mrs x13 x14 x15 x16 mwr x17 mfo, ar_n cI x1 16 rz, ar_i cI x2 128 rl] H := hP
                        have hD : va_D A [mo_c o mth mty x0 mat mfr mto true mrd x1 x2 x3 mhf mhp mcl mck mba mct x4 x5 x6 x7 x8 mst x9 x10 x11 x12 mtr mrs x13 x14 x15 x16 mwr x17 mfo, ar_n cI x1 16 rz, ar_i cI x2 128 rl] := hD
                        refine lv_iinc (k := 1) (v := nI (k + 1)) (lv' := [(4, .int (nI (k + 1))), (5, .int (pt_lit (bb k))), (3, .int (nI (b % 8 + 1))), (0, .ref o), (1, .int (pt_lit b)), (2, .int (nI v))]) hx hb dc_Mo_take_100 hl rfl (nI_1 _) (by decide) rfl (fun ls hl => ?_)
                        refine lv_goto hx hb dc_Mo_take_103 rfl ?_
                        have hl := lv_sub (l' := [(4, .int (nI (k + 1))), (3, .int (nI (b % 8 + 1))), (0, .ref o), (1, .int (pt_lit b)), (2, .int (nI v))]) hl [0, 2, 3, 4, 5] rfl
                        exact ih_40 _ _ _ _ (by omega) hP hD hS hl (by omega)
            exact lp_40 _ 0 _ _ _ (Nat.lt_succ_self _) hP hD hS hl (by omega)
    · exact absurd (lit_pp b h8) hc1
  · refine lv_iload_n hx hb dc_Mo_take_0 rfl (lv_at hl 1 rfl) ?_
    refine lv_if_ge hx hb dc_Mo_take_1 rfl (fun hc1 => ?_) (fun hc1 => ?_)
    · exact absurd hc1 (lit_nn b hb16 (by omega))
    · refine lv_iload_n hx hb dc_Mo_take_4 rfl (lv_at hl 1 rfl) ?_
      refine lv_ineg hx hb dc_Mo_take_5 ?_
      refine kn_top (y := nI (b % 8 + 1)) (lit_an b hb16 (by omega)) ?_
      refine lv_goto hx hb dc_Mo_take_6 rfl ?_
      refine lv_istore_n (lv' := [(3, .int (nI (b % 8 + 1))), (0, .ref o), (1, .int (pt_lit b)), (2, .int (nI v))]) hx hb dc_Mo_take_10 rfl hl (by decide) rfl (fun ls hl => ?_)
      refine lv_aload_n hx hb dc_Mo_take_11 rfl (lv_at hl 1 rfl) ?_
      refine lv_aload_n hx hb dc_Mo_take_12 rfl (lv_at hl 1 rfl) ?_
      refine va_get (ci := 10) (v := .int (kb_i mgd)) (C := rn_Mo) (T := fd_Mo) (N := 36) hx hb hts in_Mo hown hK hP 0 rfl rfl 6 (by decide) (hts _ wd_752) (fun _ h9 => h9) rfl dc_Mo_take_13 ?_
      refine kb_if_eq hx hb dc_Mo_take_16 rfl (fun hc16 => ?_) (fun hc16 => ?_)
      · exact absurd hc16 (by rw [hgd]; decide)
      · refine lv_iload_n hx hb dc_Mo_take_19 rfl (lv_at hl 0 rfl) ?_
        refine lv_iconst (v := nI 1) hx hb dc_Mo_take_20 (by decide +kernel) ?_
        refine kn_icmp_lt hx hb (by omega) (by omega) dc_Mo_take_21 rfl (fun hc21 => ?_) (fun hc21 => ?_)
        · exfalso; omega
        · refine lv_iload_n hx hb dc_Mo_take_24 rfl (lv_at hl 0 rfl) ?_
          refine lv_iload_n hx hb dc_Mo_take_25 rfl (lv_at hl 3 rfl) ?_
          refine kn_icmp_gt hx hb (by omega) (by omega) dc_Mo_take_26 rfl (fun hc26 => ?_) (fun hc26 => ?_)
          · exfalso; omega
          · refine lv_iconst (v := nI 1) hx hb dc_Mo_take_29 (by decide +kernel) ?_
            refine lv_goto hx hb dc_Mo_take_30 rfl ?_
            refine kn_top (y := kb_i true) (by decide +kernel) ?_
            refine va_put (ci := 10) (v := .int (kb_i true)) (ty := .boolean) (C := rn_Mo) (T := fd_Mo) (N := 36) hx hb hts in_Mo ty_Mo tk_Mo nm_Mo hown hK hP hD hS 0 rfl rfl 6 (by decide) (hts _ wd_752) (fun _ h9 => h9) rfl (by decide +kernel) (kb_nar _) (kb_fit _) (Nat.le_of_ble_eq_true rfl) dc_Mo_take_34 (fun H locs hP hD hS => ?_)
            have hP : va_P D kc_l [mo_c o mth mty x0 mat mfr mto true mrd x1 x2 x3 mhf mhp mcl mck mba mct x4 x5 x6 x7 x8 mst x9 x10 x11 x12 mtr mrs x13 x14 x15 x16 mwr x17 mfo, ar_n cI x1 16 rz, ar_i cI x2 128 rl] H := hP
            have hD : va_D A [mo_c o mth mty x0 mat mfr mto true mrd x1 x2 x3 mhf mhp mcl mck mba mct x4 x5 x6 x7 x8 mst x9 x10 x11 x12 mtr mrs x13 x14 x15 x16 mwr x17 mfo, ar_n cI x1 16 rz, ar_i cI x2 128 rl] := hD
            refine lv_iconst (v := nI 0) hx hb dc_Mo_take_37 (by decide +kernel) ?_
            refine lv_istore (lv' := [(4, .int (nI 0)), (3, .int (nI (b % 8 + 1))), (0, .ref o), (1, .int (pt_lit b)), (2, .int (nI v))]) hx hb dc_Mo_take_38 hl (by decide) rfl (fun ls hl => ?_)
            have lp_40 : ∀ (K : Nat) (k : Nat) (H : Heap) (locs : List Loc) (ls : Array Slot), rz mrd - k < K → va_P D kc_l [mo_c o mth mty x0 mat mfr mto true mrd x1 x2 x3 mhf mhp mcl mck mba mct x4 x5 x6 x7 x8 mst x9 x10 x11 x12 mtr mrs x13 x14 x15 x16 mwr x17 mfo, ar_n cI x1 16 rz, ar_i cI x2 128 rl] H → va_D A [mo_c o mth mty x0 mat mfr mto true mrd x1 x2 x3 mhf mhp mcl mck mba mct x4 x5 x6 x7 x8 mst x9 x10 x11 x12 mtr mrs x13 x14 x15 x16 mwr x17 mfo, ar_n cI x1 16 rz, ar_i cI x2 128 rl] → va_S A s.heap H locs → lv_has ls 6 [(4, .int (nI k)), (3, .int (nI (b % 8 + 1))), (0, .ref o), (1, .int (pt_lit b)), (2, .int (nI v))] → (k ≤ rz mrd) → W p l e ({ frames := 0, cells := 0, slots := 0, locals := 0 } : Room) s m ([.ref o, .int (pt_lit b), .int (nI v)] : List Value).toArray below meth c H locs 0 0 (MQ below (kw_q none D kc_l [mo_c o mth mty x0 mat mfr mto true mrd x1 x2 x3 mhf mhp mcl mck mba mct x4 x5 x6 x7 x8 mst x9 x10 x11 x12 mtr mrs x13 x14 x15 x16 mwr x17 mfo, ar_n cI x1 16 (va_up rz mrd (rz mrd + 1)), ar_i cI x2 128 (upd rl (8 * mrd + rz mrd) (pt_lit b))] A) ([.ref o, .int (pt_lit b), .int (nI v)] : List Value).toArray s 0 0 A) (F0 m 40 ls []) := by
              intro K
              induction K with
              | zero =>
                intro k H locs ls hk
                exact absurd hk (Nat.not_lt_zero _)
              | succ K ih_40 =>
                intro k H locs ls hk hP hD hS hl h2
                refine lv_iload hx hb dc_Mo_take_40 (lv_at hl 0 rfl) ?_
                refine lv_aload_n hx hb dc_Mo_take_42 rfl (lv_at hl 2 rfl) ?_
                refine va_get (ci := 10) (v := .ref x1) (C := rn_Mo) (T := fd_Mo) (N := 36) hx hb hts in_Mo hown hK hP 0 rfl rfl 8 (by decide) (hts _ wd_754) (fun _ h9 => h9) rfl dc_Mo_take_43 ?_
                refine lv_aload_n hx hb dc_Mo_take_46 rfl (lv_at hl 2 rfl) ?_
                refine va_get (ci := 10) (v := .int (nI mrd)) (C := rn_Mo) (T := fd_Mo) (N := 36) hx hb hts in_Mo hown hK hP 0 rfl rfl 7 (by decide) (hts _ wd_753) (fun _ h9 => h9) rfl dc_Mo_take_47 ?_
                refine ka_nald (t := rz) hx hb hK hP 1 0 rfl rfl (j := mrd) (by omega) (by omega) dc_Mo_take_50 ?_
                refine kn_icmp_ge hx hb (by omega) (by omega) dc_Mo_take_51 rfl (fun hc51 => ?_) (fun hc51 => ?_)
                · refine lv_aload_n hx hb dc_Mo_take_106 rfl (lv_at hl 2 rfl) ?_
                  refine va_get (ci := 10) (v := .int (kb_i true)) (C := rn_Mo) (T := fd_Mo) (N := 36) hx hb hts in_Mo hown hK hP 0 rfl rfl 6 (by decide) (hts _ wd_752) (fun _ h9 => h9) rfl dc_Mo_take_107 ?_
                  refine kb_if_eq hx hb dc_Mo_take_110 rfl (fun hc110 => ?_) (fun hc110 => ?_)
                  · exact absurd hc110 (by decide)
                  · refine lv_aload_n hx hb dc_Mo_take_113 rfl (lv_at hl 2 rfl) ?_
                    refine va_get (ci := 10) (v := .ref x2) (C := rn_Mo) (T := fd_Mo) (N := 36) hx hb hts in_Mo hown hK hP 0 rfl rfl 9 (by decide) (hts _ wd_755) (fun _ h9 => h9) rfl dc_Mo_take_114 ?_
                    refine lv_bipush (v := nI 8) hx hb dc_Mo_take_117 (by decide +kernel) ?_
                    refine lv_aload_n hx hb dc_Mo_take_119 rfl (lv_at hl 2 rfl) ?_
                    refine va_get (ci := 10) (v := .int (nI mrd)) (C := rn_Mo) (T := fd_Mo) (N := 36) hx hb hts in_Mo hown hK hP 0 rfl rfl 7 (by decide) (hts _ wd_753) (fun _ h9 => h9) rfl dc_Mo_take_120 ?_
                    refine kn_imul hx hb dc_Mo_take_123 ?_
                    refine lv_aload_n hx hb dc_Mo_take_124 rfl (lv_at hl 2 rfl) ?_
                    refine va_get (ci := 10) (v := .ref x1) (C := rn_Mo) (T := fd_Mo) (N := 36) hx hb hts in_Mo hown hK hP 0 rfl rfl 8 (by decide) (hts _ wd_754) (fun _ h9 => h9) rfl dc_Mo_take_125 ?_
                    refine lv_aload_n hx hb dc_Mo_take_128 rfl (lv_at hl 2 rfl) ?_
                    refine va_get (ci := 10) (v := .int (nI mrd)) (C := rn_Mo) (T := fd_Mo) (N := 36) hx hb hts in_Mo hown hK hP 0 rfl rfl 7 (by decide) (hts _ wd_753) (fun _ h9 => h9) rfl dc_Mo_take_129 ?_
                    refine ka_nald (t := rz) hx hb hK hP 1 0 rfl rfl (j := mrd) (by omega) (by omega) dc_Mo_take_132 ?_
                    refine kn_iadd hx hb dc_Mo_take_133 ?_
                    refine lv_iload_n hx hb dc_Mo_take_134 rfl (lv_at hl 3 rfl) ?_
                    refine ka_iast (f := rl) hx hb hK hP hD hS 2 0 rfl rfl (j := (8 * mrd) + (rz mrd)) (by omega) (by omega) dc_Mo_take_135 (ws' := [mo_c o mth mty x0 mat mfr mto true mrd x1 x2 x3 mhf mhp mcl mck mba mct x4 x5 x6 x7 x8 mst x9 x10 x11 x12 mtr mrs x13 x14 x15 x16 mwr x17 mfo, ar_n cI x1 16 rz, ar_i cI x2 128 (upd rl ((8 * mrd) + (rz mrd)) (pt_lit b))]) rfl (fun H locs hP hD hS => ?_)
                    refine lv_aload_n hx hb dc_Mo_take_136 rfl (lv_at hl 2 rfl) ?_
                    refine va_get (ci := 10) (v := .ref x1) (C := rn_Mo) (T := fd_Mo) (N := 36) hx hb hts in_Mo hown hK hP 0 rfl rfl 8 (by decide) (hts _ wd_754) (fun _ h9 => h9) rfl dc_Mo_take_137 ?_
                    refine lv_aload_n hx hb dc_Mo_take_140 rfl (lv_at hl 2 rfl) ?_
                    refine va_get (ci := 10) (v := .int (nI mrd)) (C := rn_Mo) (T := fd_Mo) (N := 36) hx hb hts in_Mo hown hK hP 0 rfl rfl 7 (by decide) (hts _ wd_753) (fun _ h9 => h9) rfl dc_Mo_take_141 ?_
                    refine lv_dup2_11 hx hb dc_Mo_take_144 rfl rfl ?_
                    refine ka_nald (t := rz) hx hb hK hP 1 0 rfl rfl (j := mrd) (by omega) (by omega) dc_Mo_take_145 ?_
                    refine lv_iconst (v := nI 1) hx hb dc_Mo_take_146 (by decide +kernel) ?_
                    refine kn_iadd hx hb dc_Mo_take_147 ?_
                    refine ka_nast (t := rz) hx hb hK hP hD hS 1 0 rfl rfl (j := mrd) (by omega) (by omega) dc_Mo_take_148 (ws' := [mo_c o mth mty x0 mat mfr mto true mrd x1 x2 x3 mhf mhp mcl mck mba mct x4 x5 x6 x7 x8 mst x9 x10 x11 x12 mtr mrs x13 x14 x15 x16 mwr x17 mfo, ar_n cI x1 16 (va_up rz mrd ((rz mrd) + 1)), ar_i cI x2 128 (upd rl ((8 * mrd) + (rz mrd)) (pt_lit b))]) rfl (fun H locs hP hD hS => ?_)
                    exact kw_vret hx hb hr hlocks hP hD hS dc_Mo_take_149 (rfl)
                · refine lv_aload_n hx hb dc_Mo_take_54 rfl (lv_at hl 2 rfl) ?_
                  refine va_get (ci := 10) (v := .int (kb_i true)) (C := rn_Mo) (T := fd_Mo) (N := 36) hx hb hts in_Mo hown hK hP 0 rfl rfl 6 (by decide) (hts _ wd_752) (fun _ h9 => h9) rfl dc_Mo_take_55 ?_
                  refine kb_if_eq hx hb dc_Mo_take_58 rfl (fun hc58 => ?_) (fun hc58 => ?_)
                  · exact absurd hc58 (by decide)
                  · refine lv_aload_n hx hb dc_Mo_take_61 rfl (lv_at hl 2 rfl) ?_
                    refine va_get (ci := 10) (v := .ref x2) (C := rn_Mo) (T := fd_Mo) (N := 36) hx hb hts in_Mo hown hK hP 0 rfl rfl 9 (by decide) (hts _ wd_755) (fun _ h9 => h9) rfl dc_Mo_take_62 ?_
                    refine lv_bipush (v := nI 8) hx hb dc_Mo_take_65 (by decide +kernel) ?_
                    refine lv_aload_n hx hb dc_Mo_take_67 rfl (lv_at hl 2 rfl) ?_
                    refine va_get (ci := 10) (v := .int (nI mrd)) (C := rn_Mo) (T := fd_Mo) (N := 36) hx hb hts in_Mo hown hK hP 0 rfl rfl 7 (by decide) (hts _ wd_753) (fun _ h9 => h9) rfl dc_Mo_take_68 ?_
                    refine kn_imul hx hb dc_Mo_take_71 ?_
                    refine lv_iload hx hb dc_Mo_take_72 (lv_at hl 0 rfl) ?_
                    refine kn_iadd hx hb dc_Mo_take_74 ?_
                    refine ka_iald (f := rl) hx hb hK hP 2 0 rfl rfl (j := (8 * mrd) + k) (by omega) (by omega) dc_Mo_take_75 ?_
                    refine kn_top (y := pt_lit (bb k)) (hrow.2.2.2 k (by omega)).2.1 ?_
                    refine lv_istore (lv' := [(5, .int (pt_lit (bb k))), (4, .int (nI k)), (3, .int (nI (b % 8 + 1))), (0, .ref o), (1, .int (pt_lit b)), (2, .int (nI v))]) hx hb dc_Mo_take_76 hl (by decide) rfl (fun ls hl => ?_)
                    refine lv_aload_n hx hb dc_Mo_take_78 rfl (lv_at hl 3 rfl) ?_
                    refine lv_iload hx hb dc_Mo_take_79 (lv_at hl 0 rfl) ?_
                    refine lv_iload_n hx hb dc_Mo_take_81 rfl (lv_at hl 4 rfl) ?_
                    refine lv_icmp_eq hx hb dc_Mo_take_82 rfl (fun hc82 => ?_) (fun hc82 => ?_)
                    · exact absurd (lit_same _ (hrow.2.2.2 k (by omega)).1 b hb16 (Or.inl hc82)) (row_dup hrow hfr k (by omega))
                    · refine lv_iload hx hb dc_Mo_take_85 (lv_at hl 0 rfl) ?_
                      refine lv_iload_n hx hb dc_Mo_take_87 rfl (lv_at hl 4 rfl) ?_
                      refine lv_ineg hx hb dc_Mo_take_88 ?_
                      refine lv_icmp_eq hx hb dc_Mo_take_89 rfl (fun hc89 => ?_) (fun hc89 => ?_)
                      · exact absurd (lit_same _ (hrow.2.2.2 k (by omega)).1 b hb16 (Or.inr hc89)) (row_dup hrow hfr k (by omega))
                      · refine lv_iconst (v := nI 1) hx hb dc_Mo_take_92 (by decide +kernel) ?_
                        refine lv_goto hx hb dc_Mo_take_93 rfl ?_
                        refine kn_top (y := kb_i true) (by decide +kernel) ?_
                        refine va_put (ci := 10) (v := .int (kb_i true)) (ty := .boolean) (C := rn_Mo) (T := fd_Mo) (N := 36) hx hb hts in_Mo ty_Mo tk_Mo nm_Mo hown hK hP hD hS 0 rfl rfl 6 (by decide) (hts _ wd_752) (fun _ h9 => h9) rfl (by decide +kernel) (kb_nar _) (kb_fit _) (Nat.le_of_ble_eq_true rfl) dc_Mo_take_97 (fun H locs hP hD hS => ?_)
                        have hP : va_P D kc_l [mo_c o mth mty x0 mat mfr mto true mrd x1 x2 x3 mhf mhp mcl mck mba mct x4 x5 x6 x7 x8 mst x9 x10 x11 x12 mtr mrs x13 x14 x15 x16 mwr x17 mfo, ar_n cI x1 16 rz, ar_i cI x2 128 rl] H := hP
                        have hD : va_D A [mo_c o mth mty x0 mat mfr mto true mrd x1 x2 x3 mhf mhp mcl mck mba mct x4 x5 x6 x7 x8 mst x9 x10 x11 x12 mtr mrs x13 x14 x15 x16 mwr x17 mfo, ar_n cI x1 16 rz, ar_i cI x2 128 rl] := hD
                        refine lv_iinc (k := 1) (v := nI (k + 1)) (lv' := [(4, .int (nI (k + 1))), (5, .int (pt_lit (bb k))), (3, .int (nI (b % 8 + 1))), (0, .ref o), (1, .int (pt_lit b)), (2, .int (nI v))]) hx hb dc_Mo_take_100 hl rfl (nI_1 _) (by decide) rfl (fun ls hl => ?_)
                        refine lv_goto hx hb dc_Mo_take_103 rfl ?_
                        have hl := lv_sub (l' := [(4, .int (nI (k + 1))), (3, .int (nI (b % 8 + 1))), (0, .ref o), (1, .int (pt_lit b)), (2, .int (nI v))]) hl [0, 2, 3, 4, 5] rfl
                        exact ih_40 _ _ _ _ (by omega) hP hD hS hl (by omega)
            exact lp_40 _ 0 _ _ _ (Nat.lt_succ_self _) hP hD hS hl (by omega)

set_option maxHeartbeats 4000000 in
set_option maxRecDepth 100000 in
theorem ct_Mo_take_dup (l : Launch) (D : va_G) (cI cZ : ClassId) (sz : Nat) (o : Nat) (mth : Nat) (mty : Nat) (x0 : Nat) (mat : Nat) (mfr : Nat) (mto : Nat) (mgd : Bool) (mrd : Nat) (x1 : Nat) (x2 : Nat) (x3 : Nat) (mhf : Bool) (mhp : Bool) (mcl : Bool) (mck : Bool) (mba : Nat) (mct : Nat) (x4 : Nat) (x5 : Nat) (x6 : Nat) (x7 : Nat) (x8 : Nat) (mst : Nat) (x9 : Nat) (x10 : Nat) (x11 : Nat) (x12 : Nat) (mtr : Nat) (mrs : Nat) (x13 : Nat) (x14 : Nat) (x15 : Nat) (x16 : Nat) (mwr : Nat) (x17 : Nat) (mfo : Nat) (rz : Nat → Nat) (rl : Nat → Int32) (b : Nat) (v : Nat) (bb : Nat → Nat) (pm : Nat → Nat) (z : Nat) (hgd : mgd = true) (hrd : mrd < 16) (hb16 : b < 16) (hv8 : v ≤ 8) (hbv : b % 8 + 1 ≤ v) (hz8 : rz mrd ≤ 8) (hrow : pt_row rl (8 * mrd) (rz mrd) bb pm z) (hfr : ¬ z &&& (2 ^ (b % 8) ||| 2 ^ (b % 8 + 8)) = 0) : Met l yn_Mo_take (Cond.code yn_Mo_take bc_Mo_take 6 none :: kx_all) ({ frames := 0, cells := 0, slots := 0, locals := 0 } : Room) (kp [.ref o, .int (pt_lit b), .int (nI v)] D cI cZ [mo_c o mth mty x0 mat mfr mto mgd mrd x1 x2 x3 mhf mhp mcl mck mba mct x4 x5 x6 x7 x8 mst x9 x10 x11 x12 mtr mrs x13 x14 x15 x16 mwr x17 mfo, ar_n cI x1 16 rz, ar_i cI x2 128 rl] sz) (kw_q none D kc_l [mo_c o mth mty x0 mat mfr mto false mrd x1 x2 x3 mhf mhp mcl mck mba mct x4 x5 x6 x7 x8 mst x9 x10 x11 x12 mtr mrs x13 x14 x15 x16 mwr x17 mfo, ar_n cI x1 16 rz, ar_i cI x2 128 rl] (va_A [mo_c o mth mty x0 mat mfr mto mgd mrd x1 x2 x3 mhf mhp mcl mck mba mct x4 x5 x6 x7 x8 mst x9 x10 x11 x12 mtr mrs x13 x14 x15 x16 mwr x17 mfo, ar_n cI x1 16 rz, ar_i cI x2 128 rl] sz)) 0 0 (va_A [mo_c o mth mty x0 mat mfr mto mgd mrd x1 x2 x3 mhf mhp mcl mck mba mct x4 x5 x6 x7 x8 mst x9 x10 x11 x12 mtr mrs x13 x14 x15 x16 mwr x17 mfo, ar_n cI x1 16 rz, ar_i cI x2 128 rl] sz) := by
  refine kx_metW (by decide) (Nat.le_of_ble_eq_true rfl) ?_
  intro p e s m below meth c ls A hx hb hr hml hts hown hlocks hin hA hP hK hD hN hl hS
  have hown : s.vm.findClass rn_Mo = some m.cls := hown
  have hl : lv_has ls 6 [(0, .ref o), (1, .int (pt_lit b)), (2, .int (nI v))] := hl
  by_cases h8 : b < 8
  · refine lv_iload_n hx hb dc_Mo_take_0 rfl (lv_at hl 1 rfl) ?_
    refine lv_if_ge hx hb dc_Mo_take_1 rfl (fun hc1 => ?_) (fun hc1 => ?_)
    · refine lv_iload_n hx hb dc_Mo_take_9 rfl (lv_at hl 1 rfl) ?_
      refine kn_top (y := nI (b % 8 + 1)) (lit_ap b h8) ?_
      refine lv_istore_n (lv' := [(3, .int (nI (b % 8 + 1))), (0, .ref o), (1, .int (pt_lit b)), (2, .int (nI v))]) hx hb dc_Mo_take_10 rfl hl (by decide) rfl (fun ls hl => ?_)
      refine lv_aload_n hx hb dc_Mo_take_11 rfl (lv_at hl 1 rfl) ?_
      refine lv_aload_n hx hb dc_Mo_take_12 rfl (lv_at hl 1 rfl) ?_
      refine va_get (ci := 10) (v := .int (kb_i mgd)) (C := rn_Mo) (T := fd_Mo) (N := 36) hx hb hts in_Mo hown hK hP 0 rfl rfl 6 (by decide) (hts _ wd_752) (fun _ h9 => h9) rfl dc_Mo_take_13 ?_
      refine kb_if_eq hx hb dc_Mo_take_16 rfl (fun hc16 => ?_) (fun hc16 => ?_)
      · exact absurd hc16 (by rw [hgd]; decide)
      · refine lv_iload_n hx hb dc_Mo_take_19 rfl (lv_at hl 0 rfl) ?_
        refine lv_iconst (v := nI 1) hx hb dc_Mo_take_20 (by decide +kernel) ?_
        refine kn_icmp_lt hx hb (by omega) (by omega) dc_Mo_take_21 rfl (fun hc21 => ?_) (fun hc21 => ?_)
        · exfalso; omega
        · refine lv_iload_n hx hb dc_Mo_take_24 rfl (lv_at hl 0 rfl) ?_
          refine lv_iload_n hx hb dc_Mo_take_25 rfl (lv_at hl 3 rfl) ?_
          refine kn_icmp_gt hx hb (by omega) (by omega) dc_Mo_take_26 rfl (fun hc26 => ?_) (fun hc26 => ?_)
          · exfalso; omega
          · refine lv_iconst (v := nI 1) hx hb dc_Mo_take_29 (by decide +kernel) ?_
            refine lv_goto hx hb dc_Mo_take_30 rfl ?_
            refine kn_top (y := kb_i true) (by decide +kernel) ?_
            refine va_put (ci := 10) (v := .int (kb_i true)) (ty := .boolean) (C := rn_Mo) (T := fd_Mo) (N := 36) hx hb hts in_Mo ty_Mo tk_Mo nm_Mo hown hK hP hD hS 0 rfl rfl 6 (by decide) (hts _ wd_752) (fun _ h9 => h9) rfl (by decide +kernel) (kb_nar _) (kb_fit _) (Nat.le_of_ble_eq_true rfl) dc_Mo_take_34 (fun H locs hP hD hS => ?_)
            have hP : va_P D kc_l [mo_c o mth mty x0 mat mfr mto true mrd x1 x2 x3 mhf mhp mcl mck mba mct x4 x5 x6 x7 x8 mst x9 x10 x11 x12 mtr mrs x13 x14 x15 x16 mwr x17 mfo, ar_n cI x1 16 rz, ar_i cI x2 128 rl] H := hP
            have hD : va_D A [mo_c o mth mty x0 mat mfr mto true mrd x1 x2 x3 mhf mhp mcl mck mba mct x4 x5 x6 x7 x8 mst x9 x10 x11 x12 mtr mrs x13 x14 x15 x16 mwr x17 mfo, ar_n cI x1 16 rz, ar_i cI x2 128 rl] := hD
            refine lv_iconst (v := nI 0) hx hb dc_Mo_take_37 (by decide +kernel) ?_
            refine lv_istore (lv' := [(4, .int (nI 0)), (3, .int (nI (b % 8 + 1))), (0, .ref o), (1, .int (pt_lit b)), (2, .int (nI v))]) hx hb dc_Mo_take_38 hl (by decide) rfl (fun ls hl => ?_)
            have lp_40 : ∀ (K : Nat) (k : Nat) (H : Heap) (locs : List Loc) (ls : Array Slot), rz mrd - k < K → va_P D kc_l [mo_c o mth mty x0 mat mfr mto true mrd x1 x2 x3 mhf mhp mcl mck mba mct x4 x5 x6 x7 x8 mst x9 x10 x11 x12 mtr mrs x13 x14 x15 x16 mwr x17 mfo, ar_n cI x1 16 rz, ar_i cI x2 128 rl] H → va_D A [mo_c o mth mty x0 mat mfr mto true mrd x1 x2 x3 mhf mhp mcl mck mba mct x4 x5 x6 x7 x8 mst x9 x10 x11 x12 mtr mrs x13 x14 x15 x16 mwr x17 mfo, ar_n cI x1 16 rz, ar_i cI x2 128 rl] → va_S A s.heap H locs → lv_has ls 6 [(4, .int (nI k)), (3, .int (nI (b % 8 + 1))), (0, .ref o), (1, .int (pt_lit b)), (2, .int (nI v))] → (k ≤ rz mrd) → (∀ j, j < k → ¬ bb j % 8 = b % 8) → W p l e ({ frames := 0, cells := 0, slots := 0, locals := 0 } : Room) s m ([.ref o, .int (pt_lit b), .int (nI v)] : List Value).toArray below meth c H locs 0 0 (MQ below (kw_q none D kc_l [mo_c o mth mty x0 mat mfr mto false mrd x1 x2 x3 mhf mhp mcl mck mba mct x4 x5 x6 x7 x8 mst x9 x10 x11 x12 mtr mrs x13 x14 x15 x16 mwr x17 mfo, ar_n cI x1 16 rz, ar_i cI x2 128 rl] A) ([.ref o, .int (pt_lit b), .int (nI v)] : List Value).toArray s 0 0 A) (F0 m 40 ls []) := by
              intro K
              induction K with
              | zero =>
                intro k H locs ls hk
                exact absurd hk (Nat.not_lt_zero _)
              | succ K ih_40 =>
                intro k H locs ls hk hP hD hS hl h2 h3
                refine lv_iload hx hb dc_Mo_take_40 (lv_at hl 0 rfl) ?_
                refine lv_aload_n hx hb dc_Mo_take_42 rfl (lv_at hl 2 rfl) ?_
                refine va_get (ci := 10) (v := .ref x1) (C := rn_Mo) (T := fd_Mo) (N := 36) hx hb hts in_Mo hown hK hP 0 rfl rfl 8 (by decide) (hts _ wd_754) (fun _ h9 => h9) rfl dc_Mo_take_43 ?_
                refine lv_aload_n hx hb dc_Mo_take_46 rfl (lv_at hl 2 rfl) ?_
                refine va_get (ci := 10) (v := .int (nI mrd)) (C := rn_Mo) (T := fd_Mo) (N := 36) hx hb hts in_Mo hown hK hP 0 rfl rfl 7 (by decide) (hts _ wd_753) (fun _ h9 => h9) rfl dc_Mo_take_47 ?_
                refine ka_nald (t := rz) hx hb hK hP 1 0 rfl rfl (j := mrd) (by omega) (by omega) dc_Mo_take_50 ?_
                refine kn_icmp_ge hx hb (by omega) (by omega) dc_Mo_take_51 rfl (fun hc51 => ?_) (fun hc51 => ?_)
                · exact absurd (row_free hrow (fun j hj => h3 j (by omega))) hfr
                · refine lv_aload_n hx hb dc_Mo_take_54 rfl (lv_at hl 2 rfl) ?_
                  refine va_get (ci := 10) (v := .int (kb_i true)) (C := rn_Mo) (T := fd_Mo) (N := 36) hx hb hts in_Mo hown hK hP 0 rfl rfl 6 (by decide) (hts _ wd_752) (fun _ h9 => h9) rfl dc_Mo_take_55 ?_
                  refine kb_if_eq hx hb dc_Mo_take_58 rfl (fun hc58 => ?_) (fun hc58 => ?_)
                  · exact absurd hc58 (by decide)
                  · refine lv_aload_n hx hb dc_Mo_take_61 rfl (lv_at hl 2 rfl) ?_
                    refine va_get (ci := 10) (v := .ref x2) (C := rn_Mo) (T := fd_Mo) (N := 36) hx hb hts in_Mo hown hK hP 0 rfl rfl 9 (by decide) (hts _ wd_755) (fun _ h9 => h9) rfl dc_Mo_take_62 ?_
                    refine lv_bipush (v := nI 8) hx hb dc_Mo_take_65 (by decide +kernel) ?_
                    refine lv_aload_n hx hb dc_Mo_take_67 rfl (lv_at hl 2 rfl) ?_
                    refine va_get (ci := 10) (v := .int (nI mrd)) (C := rn_Mo) (T := fd_Mo) (N := 36) hx hb hts in_Mo hown hK hP 0 rfl rfl 7 (by decide) (hts _ wd_753) (fun _ h9 => h9) rfl dc_Mo_take_68 ?_
                    refine kn_imul hx hb dc_Mo_take_71 ?_
                    refine lv_iload hx hb dc_Mo_take_72 (lv_at hl 0 rfl) ?_
                    refine kn_iadd hx hb dc_Mo_take_74 ?_
                    refine ka_iald (f := rl) hx hb hK hP 2 0 rfl rfl (j := (8 * mrd) + k) (by omega) (by omega) dc_Mo_take_75 ?_
                    refine kn_top (y := pt_lit (bb k)) (hrow.2.2.2 k (by omega)).2.1 ?_
                    refine lv_istore (lv' := [(5, .int (pt_lit (bb k))), (4, .int (nI k)), (3, .int (nI (b % 8 + 1))), (0, .ref o), (1, .int (pt_lit b)), (2, .int (nI v))]) hx hb dc_Mo_take_76 hl (by decide) rfl (fun ls hl => ?_)
                    refine lv_aload_n hx hb dc_Mo_take_78 rfl (lv_at hl 3 rfl) ?_
                    refine lv_iload hx hb dc_Mo_take_79 (lv_at hl 0 rfl) ?_
                    refine lv_iload_n hx hb dc_Mo_take_81 rfl (lv_at hl 4 rfl) ?_
                    refine lv_icmp_eq hx hb dc_Mo_take_82 rfl (fun hc82 => ?_) (fun hc82 => ?_)
                    · refine lv_iconst (v := nI 0) hx hb dc_Mo_take_96 (by decide +kernel) ?_
                      refine kn_top (y := kb_i false) (by decide +kernel) ?_
                      refine va_put (ci := 10) (v := .int (kb_i false)) (ty := .boolean) (C := rn_Mo) (T := fd_Mo) (N := 36) hx hb hts in_Mo ty_Mo tk_Mo nm_Mo hown hK hP hD hS 0 rfl rfl 6 (by decide) (hts _ wd_752) (fun _ h9 => h9) rfl (by decide +kernel) (kb_nar _) (kb_fit _) (Nat.le_of_ble_eq_true rfl) dc_Mo_take_97 (fun H locs hP hD hS => ?_)
                      have hP : va_P D kc_l [mo_c o mth mty x0 mat mfr mto false mrd x1 x2 x3 mhf mhp mcl mck mba mct x4 x5 x6 x7 x8 mst x9 x10 x11 x12 mtr mrs x13 x14 x15 x16 mwr x17 mfo, ar_n cI x1 16 rz, ar_i cI x2 128 rl] H := hP
                      have hD : va_D A [mo_c o mth mty x0 mat mfr mto false mrd x1 x2 x3 mhf mhp mcl mck mba mct x4 x5 x6 x7 x8 mst x9 x10 x11 x12 mtr mrs x13 x14 x15 x16 mwr x17 mfo, ar_n cI x1 16 rz, ar_i cI x2 128 rl] := hD
                      refine lv_iinc (k := 1) (v := nI (k + 1)) (lv' := [(4, .int (nI (k + 1))), (5, .int (pt_lit (bb k))), (3, .int (nI (b % 8 + 1))), (0, .ref o), (1, .int (pt_lit b)), (2, .int (nI v))]) hx hb dc_Mo_take_100 hl rfl (nI_1 _) (by decide) rfl (fun ls hl => ?_)
                      refine lv_goto hx hb dc_Mo_take_103 rfl ?_
                      refine lv_iload hx hb dc_Mo_take_40 (lv_at hl 0 rfl) ?_
                      refine lv_aload_n hx hb dc_Mo_take_42 rfl (lv_at hl 3 rfl) ?_
                      refine va_get (ci := 10) (v := .ref x1) (C := rn_Mo) (T := fd_Mo) (N := 36) hx hb hts in_Mo hown hK hP 0 rfl rfl 8 (by decide) (hts _ wd_754) (fun _ h9 => h9) rfl dc_Mo_take_43 ?_
                      refine lv_aload_n hx hb dc_Mo_take_46 rfl (lv_at hl 3 rfl) ?_
                      refine va_get (ci := 10) (v := .int (nI mrd)) (C := rn_Mo) (T := fd_Mo) (N := 36) hx hb hts in_Mo hown hK hP 0 rfl rfl 7 (by decide) (hts _ wd_753) (fun _ h9 => h9) rfl dc_Mo_take_47 ?_
                      refine ka_nald (t := rz) hx hb hK hP 1 0 rfl rfl (j := mrd) (by omega) (by omega) dc_Mo_take_50 ?_
                      refine kn_icmp_ge hx hb (by omega) (by omega) dc_Mo_take_51 rfl (fun hc51 => ?_) (fun hc51 => ?_)
                      · refine lv_aload_n hx hb dc_Mo_take_106 rfl (lv_at hl 3 rfl) ?_
                        refine va_get (ci := 10) (v := .int (kb_i false)) (C := rn_Mo) (T := fd_Mo) (N := 36) hx hb hts in_Mo hown hK hP 0 rfl rfl 6 (by decide) (hts _ wd_752) (fun _ h9 => h9) rfl dc_Mo_take_107 ?_
                        refine kb_if_eq hx hb dc_Mo_take_110 rfl (fun hc110 => ?_) (fun hc110 => ?_)
                        · exact kw_vret hx hb hr hlocks hP hD hS dc_Mo_take_149 (rfl)
                        · exact absurd hc110 (by decide)
                      · refine lv_aload_n hx hb dc_Mo_take_54 rfl (lv_at hl 3 rfl) ?_
                        refine va_get (ci := 10) (v := .int (kb_i false)) (C := rn_Mo) (T := fd_Mo) (N := 36) hx hb hts in_Mo hown hK hP 0 rfl rfl 6 (by decide) (hts _ wd_752) (fun _ h9 => h9) rfl dc_Mo_take_55 ?_
                        refine kb_if_eq hx hb dc_Mo_take_58 rfl (fun hc58 => ?_) (fun hc58 => ?_)
                        · refine lv_aload_n hx hb dc_Mo_take_106 rfl (lv_at hl 3 rfl) ?_
                          refine va_get (ci := 10) (v := .int (kb_i false)) (C := rn_Mo) (T := fd_Mo) (N := 36) hx hb hts in_Mo hown hK hP 0 rfl rfl 6 (by decide) (hts _ wd_752) (fun _ h9 => h9) rfl dc_Mo_take_107 ?_
                          refine kb_if_eq hx hb dc_Mo_take_110 rfl (fun hc110 => ?_) (fun hc110 => ?_)
                          · exact kw_vret hx hb hr hlocks hP hD hS dc_Mo_take_149 (rfl)
                          · exact absurd hc110 (by decide)
                        · exact absurd hc58 (by decide)
                    · refine lv_iload hx hb dc_Mo_take_85 (lv_at hl 0 rfl) ?_
                      refine lv_iload_n hx hb dc_Mo_take_87 rfl (lv_at hl 4 rfl) ?_
                      refine lv_ineg hx hb dc_Mo_take_88 ?_
                      refine lv_icmp_eq hx hb dc_Mo_take_89 rfl (fun hc89 => ?_) (fun hc89 => ?_)
                      · refine lv_iconst (v := nI 0) hx hb dc_Mo_take_96 (by decide +kernel) ?_
                        refine kn_top (y := kb_i false) (by decide +kernel) ?_
                        refine va_put (ci := 10) (v := .int (kb_i false)) (ty := .boolean) (C := rn_Mo) (T := fd_Mo) (N := 36) hx hb hts in_Mo ty_Mo tk_Mo nm_Mo hown hK hP hD hS 0 rfl rfl 6 (by decide) (hts _ wd_752) (fun _ h9 => h9) rfl (by decide +kernel) (kb_nar _) (kb_fit _) (Nat.le_of_ble_eq_true rfl) dc_Mo_take_97 (fun H locs hP hD hS => ?_)
                        have hP : va_P D kc_l [mo_c o mth mty x0 mat mfr mto false mrd x1 x2 x3 mhf mhp mcl mck mba mct x4 x5 x6 x7 x8 mst x9 x10 x11 x12 mtr mrs x13 x14 x15 x16 mwr x17 mfo, ar_n cI x1 16 rz, ar_i cI x2 128 rl] H := hP
                        have hD : va_D A [mo_c o mth mty x0 mat mfr mto false mrd x1 x2 x3 mhf mhp mcl mck mba mct x4 x5 x6 x7 x8 mst x9 x10 x11 x12 mtr mrs x13 x14 x15 x16 mwr x17 mfo, ar_n cI x1 16 rz, ar_i cI x2 128 rl] := hD
                        refine lv_iinc (k := 1) (v := nI (k + 1)) (lv' := [(4, .int (nI (k + 1))), (5, .int (pt_lit (bb k))), (3, .int (nI (b % 8 + 1))), (0, .ref o), (1, .int (pt_lit b)), (2, .int (nI v))]) hx hb dc_Mo_take_100 hl rfl (nI_1 _) (by decide) rfl (fun ls hl => ?_)
                        refine lv_goto hx hb dc_Mo_take_103 rfl ?_
                        refine lv_iload hx hb dc_Mo_take_40 (lv_at hl 0 rfl) ?_
                        refine lv_aload_n hx hb dc_Mo_take_42 rfl (lv_at hl 3 rfl) ?_
                        refine va_get (ci := 10) (v := .ref x1) (C := rn_Mo) (T := fd_Mo) (N := 36) hx hb hts in_Mo hown hK hP 0 rfl rfl 8 (by decide) (hts _ wd_754) (fun _ h9 => h9) rfl dc_Mo_take_43 ?_
                        refine lv_aload_n hx hb dc_Mo_take_46 rfl (lv_at hl 3 rfl) ?_
                        refine va_get (ci := 10) (v := .int (nI mrd)) (C := rn_Mo) (T := fd_Mo) (N := 36) hx hb hts in_Mo hown hK hP 0 rfl rfl 7 (by decide) (hts _ wd_753) (fun _ h9 => h9) rfl dc_Mo_take_47 ?_
                        refine ka_nald (t := rz) hx hb hK hP 1 0 rfl rfl (j := mrd) (by omega) (by omega) dc_Mo_take_50 ?_
                        refine kn_icmp_ge hx hb (by omega) (by omega) dc_Mo_take_51 rfl (fun hc51 => ?_) (fun hc51 => ?_)
                        · refine lv_aload_n hx hb dc_Mo_take_106 rfl (lv_at hl 3 rfl) ?_
                          refine va_get (ci := 10) (v := .int (kb_i false)) (C := rn_Mo) (T := fd_Mo) (N := 36) hx hb hts in_Mo hown hK hP 0 rfl rfl 6 (by decide) (hts _ wd_752) (fun _ h9 => h9) rfl dc_Mo_take_107 ?_
                          refine kb_if_eq hx hb dc_Mo_take_110 rfl (fun hc110 => ?_) (fun hc110 => ?_)
                          · exact kw_vret hx hb hr hlocks hP hD hS dc_Mo_take_149 (rfl)
                          · exact absurd hc110 (by decide)
                        · refine lv_aload_n hx hb dc_Mo_take_54 rfl (lv_at hl 3 rfl) ?_
                          refine va_get (ci := 10) (v := .int (kb_i false)) (C := rn_Mo) (T := fd_Mo) (N := 36) hx hb hts in_Mo hown hK hP 0 rfl rfl 6 (by decide) (hts _ wd_752) (fun _ h9 => h9) rfl dc_Mo_take_55 ?_
                          refine kb_if_eq hx hb dc_Mo_take_58 rfl (fun hc58 => ?_) (fun hc58 => ?_)
                          · refine lv_aload_n hx hb dc_Mo_take_106 rfl (lv_at hl 3 rfl) ?_
                            refine va_get (ci := 10) (v := .int (kb_i false)) (C := rn_Mo) (T := fd_Mo) (N := 36) hx hb hts in_Mo hown hK hP 0 rfl rfl 6 (by decide) (hts _ wd_752) (fun _ h9 => h9) rfl dc_Mo_take_107 ?_
                            refine kb_if_eq hx hb dc_Mo_take_110 rfl (fun hc110 => ?_) (fun hc110 => ?_)
                            · exact kw_vret hx hb hr hlocks hP hD hS dc_Mo_take_149 (rfl)
                            · exact absurd hc110 (by decide)
                          · exact absurd hc58 (by decide)
                      · have hne : ¬ bb k % 8 = b % 8 := fun q => (lit_diff _ (hrow.2.2.2 k (by omega)).1 b hb16 q).elim hc82 hc89
                        refine lv_iconst (v := nI 1) hx hb dc_Mo_take_92 (by decide +kernel) ?_
                        refine lv_goto hx hb dc_Mo_take_93 rfl ?_
                        refine kn_top (y := kb_i true) (by decide +kernel) ?_
                        refine va_put (ci := 10) (v := .int (kb_i true)) (ty := .boolean) (C := rn_Mo) (T := fd_Mo) (N := 36) hx hb hts in_Mo ty_Mo tk_Mo nm_Mo hown hK hP hD hS 0 rfl rfl 6 (by decide) (hts _ wd_752) (fun _ h9 => h9) rfl (by decide +kernel) (kb_nar _) (kb_fit _) (Nat.le_of_ble_eq_true rfl) dc_Mo_take_97 (fun H locs hP hD hS => ?_)
                        have hP : va_P D kc_l [mo_c o mth mty x0 mat mfr mto true mrd x1 x2 x3 mhf mhp mcl mck mba mct x4 x5 x6 x7 x8 mst x9 x10 x11 x12 mtr mrs x13 x14 x15 x16 mwr x17 mfo, ar_n cI x1 16 rz, ar_i cI x2 128 rl] H := hP
                        have hD : va_D A [mo_c o mth mty x0 mat mfr mto true mrd x1 x2 x3 mhf mhp mcl mck mba mct x4 x5 x6 x7 x8 mst x9 x10 x11 x12 mtr mrs x13 x14 x15 x16 mwr x17 mfo, ar_n cI x1 16 rz, ar_i cI x2 128 rl] := hD
                        refine lv_iinc (k := 1) (v := nI (k + 1)) (lv' := [(4, .int (nI (k + 1))), (5, .int (pt_lit (bb k))), (3, .int (nI (b % 8 + 1))), (0, .ref o), (1, .int (pt_lit b)), (2, .int (nI v))]) hx hb dc_Mo_take_100 hl rfl (nI_1 _) (by decide) rfl (fun ls hl => ?_)
                        refine lv_goto hx hb dc_Mo_take_103 rfl ?_
                        have hl := lv_sub (l' := [(4, .int (nI (k + 1))), (3, .int (nI (b % 8 + 1))), (0, .ref o), (1, .int (pt_lit b)), (2, .int (nI v))]) hl [0, 2, 3, 4, 5] rfl
                        exact ih_40 _ _ _ _ (by omega) hP hD hS hl (by omega) (fun j hj => (Nat.lt_or_ge j k).elim (fun q => h3 j q) (fun q => by rw [show j = k by omega]; exact hne))
            exact lp_40 _ 0 _ _ _ (Nat.lt_succ_self _) hP hD hS hl (by omega) (fun j hj => absurd hj (Nat.not_lt_zero j))
    · exact absurd (lit_pp b h8) hc1
  · refine lv_iload_n hx hb dc_Mo_take_0 rfl (lv_at hl 1 rfl) ?_
    refine lv_if_ge hx hb dc_Mo_take_1 rfl (fun hc1 => ?_) (fun hc1 => ?_)
    · exact absurd hc1 (lit_nn b hb16 (by omega))
    · refine lv_iload_n hx hb dc_Mo_take_4 rfl (lv_at hl 1 rfl) ?_
      refine lv_ineg hx hb dc_Mo_take_5 ?_
      refine kn_top (y := nI (b % 8 + 1)) (lit_an b hb16 (by omega)) ?_
      refine lv_goto hx hb dc_Mo_take_6 rfl ?_
      refine lv_istore_n (lv' := [(3, .int (nI (b % 8 + 1))), (0, .ref o), (1, .int (pt_lit b)), (2, .int (nI v))]) hx hb dc_Mo_take_10 rfl hl (by decide) rfl (fun ls hl => ?_)
      refine lv_aload_n hx hb dc_Mo_take_11 rfl (lv_at hl 1 rfl) ?_
      refine lv_aload_n hx hb dc_Mo_take_12 rfl (lv_at hl 1 rfl) ?_
      refine va_get (ci := 10) (v := .int (kb_i mgd)) (C := rn_Mo) (T := fd_Mo) (N := 36) hx hb hts in_Mo hown hK hP 0 rfl rfl 6 (by decide) (hts _ wd_752) (fun _ h9 => h9) rfl dc_Mo_take_13 ?_
      refine kb_if_eq hx hb dc_Mo_take_16 rfl (fun hc16 => ?_) (fun hc16 => ?_)
      · exact absurd hc16 (by rw [hgd]; decide)
      · refine lv_iload_n hx hb dc_Mo_take_19 rfl (lv_at hl 0 rfl) ?_
        refine lv_iconst (v := nI 1) hx hb dc_Mo_take_20 (by decide +kernel) ?_
        refine kn_icmp_lt hx hb (by omega) (by omega) dc_Mo_take_21 rfl (fun hc21 => ?_) (fun hc21 => ?_)
        · exfalso; omega
        · refine lv_iload_n hx hb dc_Mo_take_24 rfl (lv_at hl 0 rfl) ?_
          refine lv_iload_n hx hb dc_Mo_take_25 rfl (lv_at hl 3 rfl) ?_
          refine kn_icmp_gt hx hb (by omega) (by omega) dc_Mo_take_26 rfl (fun hc26 => ?_) (fun hc26 => ?_)
          · exfalso; omega
          · refine lv_iconst (v := nI 1) hx hb dc_Mo_take_29 (by decide +kernel) ?_
            refine lv_goto hx hb dc_Mo_take_30 rfl ?_
            refine kn_top (y := kb_i true) (by decide +kernel) ?_
            refine va_put (ci := 10) (v := .int (kb_i true)) (ty := .boolean) (C := rn_Mo) (T := fd_Mo) (N := 36) hx hb hts in_Mo ty_Mo tk_Mo nm_Mo hown hK hP hD hS 0 rfl rfl 6 (by decide) (hts _ wd_752) (fun _ h9 => h9) rfl (by decide +kernel) (kb_nar _) (kb_fit _) (Nat.le_of_ble_eq_true rfl) dc_Mo_take_34 (fun H locs hP hD hS => ?_)
            have hP : va_P D kc_l [mo_c o mth mty x0 mat mfr mto true mrd x1 x2 x3 mhf mhp mcl mck mba mct x4 x5 x6 x7 x8 mst x9 x10 x11 x12 mtr mrs x13 x14 x15 x16 mwr x17 mfo, ar_n cI x1 16 rz, ar_i cI x2 128 rl] H := hP
            have hD : va_D A [mo_c o mth mty x0 mat mfr mto true mrd x1 x2 x3 mhf mhp mcl mck mba mct x4 x5 x6 x7 x8 mst x9 x10 x11 x12 mtr mrs x13 x14 x15 x16 mwr x17 mfo, ar_n cI x1 16 rz, ar_i cI x2 128 rl] := hD
            refine lv_iconst (v := nI 0) hx hb dc_Mo_take_37 (by decide +kernel) ?_
            refine lv_istore (lv' := [(4, .int (nI 0)), (3, .int (nI (b % 8 + 1))), (0, .ref o), (1, .int (pt_lit b)), (2, .int (nI v))]) hx hb dc_Mo_take_38 hl (by decide) rfl (fun ls hl => ?_)
            have lp_40 : ∀ (K : Nat) (k : Nat) (H : Heap) (locs : List Loc) (ls : Array Slot), rz mrd - k < K → va_P D kc_l [mo_c o mth mty x0 mat mfr mto true mrd x1 x2 x3 mhf mhp mcl mck mba mct x4 x5 x6 x7 x8 mst x9 x10 x11 x12 mtr mrs x13 x14 x15 x16 mwr x17 mfo, ar_n cI x1 16 rz, ar_i cI x2 128 rl] H → va_D A [mo_c o mth mty x0 mat mfr mto true mrd x1 x2 x3 mhf mhp mcl mck mba mct x4 x5 x6 x7 x8 mst x9 x10 x11 x12 mtr mrs x13 x14 x15 x16 mwr x17 mfo, ar_n cI x1 16 rz, ar_i cI x2 128 rl] → va_S A s.heap H locs → lv_has ls 6 [(4, .int (nI k)), (3, .int (nI (b % 8 + 1))), (0, .ref o), (1, .int (pt_lit b)), (2, .int (nI v))] → (k ≤ rz mrd) → (∀ j, j < k → ¬ bb j % 8 = b % 8) → W p l e ({ frames := 0, cells := 0, slots := 0, locals := 0 } : Room) s m ([.ref o, .int (pt_lit b), .int (nI v)] : List Value).toArray below meth c H locs 0 0 (MQ below (kw_q none D kc_l [mo_c o mth mty x0 mat mfr mto false mrd x1 x2 x3 mhf mhp mcl mck mba mct x4 x5 x6 x7 x8 mst x9 x10 x11 x12 mtr mrs x13 x14 x15 x16 mwr x17 mfo, ar_n cI x1 16 rz, ar_i cI x2 128 rl] A) ([.ref o, .int (pt_lit b), .int (nI v)] : List Value).toArray s 0 0 A) (F0 m 40 ls []) := by
              intro K
              induction K with
              | zero =>
                intro k H locs ls hk
                exact absurd hk (Nat.not_lt_zero _)
              | succ K ih_40 =>
                intro k H locs ls hk hP hD hS hl h2 h3
                refine lv_iload hx hb dc_Mo_take_40 (lv_at hl 0 rfl) ?_
                refine lv_aload_n hx hb dc_Mo_take_42 rfl (lv_at hl 2 rfl) ?_
                refine va_get (ci := 10) (v := .ref x1) (C := rn_Mo) (T := fd_Mo) (N := 36) hx hb hts in_Mo hown hK hP 0 rfl rfl 8 (by decide) (hts _ wd_754) (fun _ h9 => h9) rfl dc_Mo_take_43 ?_
                refine lv_aload_n hx hb dc_Mo_take_46 rfl (lv_at hl 2 rfl) ?_
                refine va_get (ci := 10) (v := .int (nI mrd)) (C := rn_Mo) (T := fd_Mo) (N := 36) hx hb hts in_Mo hown hK hP 0 rfl rfl 7 (by decide) (hts _ wd_753) (fun _ h9 => h9) rfl dc_Mo_take_47 ?_
                refine ka_nald (t := rz) hx hb hK hP 1 0 rfl rfl (j := mrd) (by omega) (by omega) dc_Mo_take_50 ?_
                refine kn_icmp_ge hx hb (by omega) (by omega) dc_Mo_take_51 rfl (fun hc51 => ?_) (fun hc51 => ?_)
                · exact absurd (row_free hrow (fun j hj => h3 j (by omega))) hfr
                · refine lv_aload_n hx hb dc_Mo_take_54 rfl (lv_at hl 2 rfl) ?_
                  refine va_get (ci := 10) (v := .int (kb_i true)) (C := rn_Mo) (T := fd_Mo) (N := 36) hx hb hts in_Mo hown hK hP 0 rfl rfl 6 (by decide) (hts _ wd_752) (fun _ h9 => h9) rfl dc_Mo_take_55 ?_
                  refine kb_if_eq hx hb dc_Mo_take_58 rfl (fun hc58 => ?_) (fun hc58 => ?_)
                  · exact absurd hc58 (by decide)
                  · refine lv_aload_n hx hb dc_Mo_take_61 rfl (lv_at hl 2 rfl) ?_
                    refine va_get (ci := 10) (v := .ref x2) (C := rn_Mo) (T := fd_Mo) (N := 36) hx hb hts in_Mo hown hK hP 0 rfl rfl 9 (by decide) (hts _ wd_755) (fun _ h9 => h9) rfl dc_Mo_take_62 ?_
                    refine lv_bipush (v := nI 8) hx hb dc_Mo_take_65 (by decide +kernel) ?_
                    refine lv_aload_n hx hb dc_Mo_take_67 rfl (lv_at hl 2 rfl) ?_
                    refine va_get (ci := 10) (v := .int (nI mrd)) (C := rn_Mo) (T := fd_Mo) (N := 36) hx hb hts in_Mo hown hK hP 0 rfl rfl 7 (by decide) (hts _ wd_753) (fun _ h9 => h9) rfl dc_Mo_take_68 ?_
                    refine kn_imul hx hb dc_Mo_take_71 ?_
                    refine lv_iload hx hb dc_Mo_take_72 (lv_at hl 0 rfl) ?_
                    refine kn_iadd hx hb dc_Mo_take_74 ?_
                    refine ka_iald (f := rl) hx hb hK hP 2 0 rfl rfl (j := (8 * mrd) + k) (by omega) (by omega) dc_Mo_take_75 ?_
                    refine kn_top (y := pt_lit (bb k)) (hrow.2.2.2 k (by omega)).2.1 ?_
                    refine lv_istore (lv' := [(5, .int (pt_lit (bb k))), (4, .int (nI k)), (3, .int (nI (b % 8 + 1))), (0, .ref o), (1, .int (pt_lit b)), (2, .int (nI v))]) hx hb dc_Mo_take_76 hl (by decide) rfl (fun ls hl => ?_)
                    refine lv_aload_n hx hb dc_Mo_take_78 rfl (lv_at hl 3 rfl) ?_
                    refine lv_iload hx hb dc_Mo_take_79 (lv_at hl 0 rfl) ?_
                    refine lv_iload_n hx hb dc_Mo_take_81 rfl (lv_at hl 4 rfl) ?_
                    refine lv_icmp_eq hx hb dc_Mo_take_82 rfl (fun hc82 => ?_) (fun hc82 => ?_)
                    · refine lv_iconst (v := nI 0) hx hb dc_Mo_take_96 (by decide +kernel) ?_
                      refine kn_top (y := kb_i false) (by decide +kernel) ?_
                      refine va_put (ci := 10) (v := .int (kb_i false)) (ty := .boolean) (C := rn_Mo) (T := fd_Mo) (N := 36) hx hb hts in_Mo ty_Mo tk_Mo nm_Mo hown hK hP hD hS 0 rfl rfl 6 (by decide) (hts _ wd_752) (fun _ h9 => h9) rfl (by decide +kernel) (kb_nar _) (kb_fit _) (Nat.le_of_ble_eq_true rfl) dc_Mo_take_97 (fun H locs hP hD hS => ?_)
                      have hP : va_P D kc_l [mo_c o mth mty x0 mat mfr mto false mrd x1 x2 x3 mhf mhp mcl mck mba mct x4 x5 x6 x7 x8 mst x9 x10 x11 x12 mtr mrs x13 x14 x15 x16 mwr x17 mfo, ar_n cI x1 16 rz, ar_i cI x2 128 rl] H := hP
                      have hD : va_D A [mo_c o mth mty x0 mat mfr mto false mrd x1 x2 x3 mhf mhp mcl mck mba mct x4 x5 x6 x7 x8 mst x9 x10 x11 x12 mtr mrs x13 x14 x15 x16 mwr x17 mfo, ar_n cI x1 16 rz, ar_i cI x2 128 rl] := hD
                      refine lv_iinc (k := 1) (v := nI (k + 1)) (lv' := [(4, .int (nI (k + 1))), (5, .int (pt_lit (bb k))), (3, .int (nI (b % 8 + 1))), (0, .ref o), (1, .int (pt_lit b)), (2, .int (nI v))]) hx hb dc_Mo_take_100 hl rfl (nI_1 _) (by decide) rfl (fun ls hl => ?_)
                      refine lv_goto hx hb dc_Mo_take_103 rfl ?_
                      refine lv_iload hx hb dc_Mo_take_40 (lv_at hl 0 rfl) ?_
                      refine lv_aload_n hx hb dc_Mo_take_42 rfl (lv_at hl 3 rfl) ?_
                      refine va_get (ci := 10) (v := .ref x1) (C := rn_Mo) (T := fd_Mo) (N := 36) hx hb hts in_Mo hown hK hP 0 rfl rfl 8 (by decide) (hts _ wd_754) (fun _ h9 => h9) rfl dc_Mo_take_43 ?_
                      refine lv_aload_n hx hb dc_Mo_take_46 rfl (lv_at hl 3 rfl) ?_
                      refine va_get (ci := 10) (v := .int (nI mrd)) (C := rn_Mo) (T := fd_Mo) (N := 36) hx hb hts in_Mo hown hK hP 0 rfl rfl 7 (by decide) (hts _ wd_753) (fun _ h9 => h9) rfl dc_Mo_take_47 ?_
                      refine ka_nald (t := rz) hx hb hK hP 1 0 rfl rfl (j := mrd) (by omega) (by omega) dc_Mo_take_50 ?_
                      refine kn_icmp_ge hx hb (by omega) (by omega) dc_Mo_take_51 rfl (fun hc51 => ?_) (fun hc51 => ?_)
                      · refine lv_aload_n hx hb dc_Mo_take_106 rfl (lv_at hl 3 rfl) ?_
                        refine va_get (ci := 10) (v := .int (kb_i false)) (C := rn_Mo) (T := fd_Mo) (N := 36) hx hb hts in_Mo hown hK hP 0 rfl rfl 6 (by decide) (hts _ wd_752) (fun _ h9 => h9) rfl dc_Mo_take_107 ?_
                        refine kb_if_eq hx hb dc_Mo_take_110 rfl (fun hc110 => ?_) (fun hc110 => ?_)
                        · exact kw_vret hx hb hr hlocks hP hD hS dc_Mo_take_149 (rfl)
                        · exact absurd hc110 (by decide)
                      · refine lv_aload_n hx hb dc_Mo_take_54 rfl (lv_at hl 3 rfl) ?_
                        refine va_get (ci := 10) (v := .int (kb_i false)) (C := rn_Mo) (T := fd_Mo) (N := 36) hx hb hts in_Mo hown hK hP 0 rfl rfl 6 (by decide) (hts _ wd_752) (fun _ h9 => h9) rfl dc_Mo_take_55 ?_
                        refine kb_if_eq hx hb dc_Mo_take_58 rfl (fun hc58 => ?_) (fun hc58 => ?_)
                        · refine lv_aload_n hx hb dc_Mo_take_106 rfl (lv_at hl 3 rfl) ?_
                          refine va_get (ci := 10) (v := .int (kb_i false)) (C := rn_Mo) (T := fd_Mo) (N := 36) hx hb hts in_Mo hown hK hP 0 rfl rfl 6 (by decide) (hts _ wd_752) (fun _ h9 => h9) rfl dc_Mo_take_107 ?_
                          refine kb_if_eq hx hb dc_Mo_take_110 rfl (fun hc110 => ?_) (fun hc110 => ?_)
                          · exact kw_vret hx hb hr hlocks hP hD hS dc_Mo_take_149 (rfl)
                          · exact absurd hc110 (by decide)
                        · exact absurd hc58 (by decide)
                    · refine lv_iload hx hb dc_Mo_take_85 (lv_at hl 0 rfl) ?_
                      refine lv_iload_n hx hb dc_Mo_take_87 rfl (lv_at hl 4 rfl) ?_
                      refine lv_ineg hx hb dc_Mo_take_88 ?_
                      refine lv_icmp_eq hx hb dc_Mo_take_89 rfl (fun hc89 => ?_) (fun hc89 => ?_)
                      · refine lv_iconst (v := nI 0) hx hb dc_Mo_take_96 (by decide +kernel) ?_
                        refine kn_top (y := kb_i false) (by decide +kernel) ?_
                        refine va_put (ci := 10) (v := .int (kb_i false)) (ty := .boolean) (C := rn_Mo) (T := fd_Mo) (N := 36) hx hb hts in_Mo ty_Mo tk_Mo nm_Mo hown hK hP hD hS 0 rfl rfl 6 (by decide) (hts _ wd_752) (fun _ h9 => h9) rfl (by decide +kernel) (kb_nar _) (kb_fit _) (Nat.le_of_ble_eq_true rfl) dc_Mo_take_97 (fun H locs hP hD hS => ?_)
                        have hP : va_P D kc_l [mo_c o mth mty x0 mat mfr mto false mrd x1 x2 x3 mhf mhp mcl mck mba mct x4 x5 x6 x7 x8 mst x9 x10 x11 x12 mtr mrs x13 x14 x15 x16 mwr x17 mfo, ar_n cI x1 16 rz, ar_i cI x2 128 rl] H := hP
                        have hD : va_D A [mo_c o mth mty x0 mat mfr mto false mrd x1 x2 x3 mhf mhp mcl mck mba mct x4 x5 x6 x7 x8 mst x9 x10 x11 x12 mtr mrs x13 x14 x15 x16 mwr x17 mfo, ar_n cI x1 16 rz, ar_i cI x2 128 rl] := hD
                        refine lv_iinc (k := 1) (v := nI (k + 1)) (lv' := [(4, .int (nI (k + 1))), (5, .int (pt_lit (bb k))), (3, .int (nI (b % 8 + 1))), (0, .ref o), (1, .int (pt_lit b)), (2, .int (nI v))]) hx hb dc_Mo_take_100 hl rfl (nI_1 _) (by decide) rfl (fun ls hl => ?_)
                        refine lv_goto hx hb dc_Mo_take_103 rfl ?_
                        refine lv_iload hx hb dc_Mo_take_40 (lv_at hl 0 rfl) ?_
                        refine lv_aload_n hx hb dc_Mo_take_42 rfl (lv_at hl 3 rfl) ?_
                        refine va_get (ci := 10) (v := .ref x1) (C := rn_Mo) (T := fd_Mo) (N := 36) hx hb hts in_Mo hown hK hP 0 rfl rfl 8 (by decide) (hts _ wd_754) (fun _ h9 => h9) rfl dc_Mo_take_43 ?_
                        refine lv_aload_n hx hb dc_Mo_take_46 rfl (lv_at hl 3 rfl) ?_
                        refine va_get (ci := 10) (v := .int (nI mrd)) (C := rn_Mo) (T := fd_Mo) (N := 36) hx hb hts in_Mo hown hK hP 0 rfl rfl 7 (by decide) (hts _ wd_753) (fun _ h9 => h9) rfl dc_Mo_take_47 ?_
                        refine ka_nald (t := rz) hx hb hK hP 1 0 rfl rfl (j := mrd) (by omega) (by omega) dc_Mo_take_50 ?_
                        refine kn_icmp_ge hx hb (by omega) (by omega) dc_Mo_take_51 rfl (fun hc51 => ?_) (fun hc51 => ?_)
                        · refine lv_aload_n hx hb dc_Mo_take_106 rfl (lv_at hl 3 rfl) ?_
                          refine va_get (ci := 10) (v := .int (kb_i false)) (C := rn_Mo) (T := fd_Mo) (N := 36) hx hb hts in_Mo hown hK hP 0 rfl rfl 6 (by decide) (hts _ wd_752) (fun _ h9 => h9) rfl dc_Mo_take_107 ?_
                          refine kb_if_eq hx hb dc_Mo_take_110 rfl (fun hc110 => ?_) (fun hc110 => ?_)
                          · exact kw_vret hx hb hr hlocks hP hD hS dc_Mo_take_149 (rfl)
                          · exact absurd hc110 (by decide)
                        · refine lv_aload_n hx hb dc_Mo_take_54 rfl (lv_at hl 3 rfl) ?_
                          refine va_get (ci := 10) (v := .int (kb_i false)) (C := rn_Mo) (T := fd_Mo) (N := 36) hx hb hts in_Mo hown hK hP 0 rfl rfl 6 (by decide) (hts _ wd_752) (fun _ h9 => h9) rfl dc_Mo_take_55 ?_
                          refine kb_if_eq hx hb dc_Mo_take_58 rfl (fun hc58 => ?_) (fun hc58 => ?_)
                          · refine lv_aload_n hx hb dc_Mo_take_106 rfl (lv_at hl 3 rfl) ?_
                            refine va_get (ci := 10) (v := .int (kb_i false)) (C := rn_Mo) (T := fd_Mo) (N := 36) hx hb hts in_Mo hown hK hP 0 rfl rfl 6 (by decide) (hts _ wd_752) (fun _ h9 => h9) rfl dc_Mo_take_107 ?_
                            refine kb_if_eq hx hb dc_Mo_take_110 rfl (fun hc110 => ?_) (fun hc110 => ?_)
                            · exact kw_vret hx hb hr hlocks hP hD hS dc_Mo_take_149 (rfl)
                            · exact absurd hc110 (by decide)
                          · exact absurd hc58 (by decide)
                      · have hne : ¬ bb k % 8 = b % 8 := fun q => (lit_diff _ (hrow.2.2.2 k (by omega)).1 b hb16 q).elim hc82 hc89
                        refine lv_iconst (v := nI 1) hx hb dc_Mo_take_92 (by decide +kernel) ?_
                        refine lv_goto hx hb dc_Mo_take_93 rfl ?_
                        refine kn_top (y := kb_i true) (by decide +kernel) ?_
                        refine va_put (ci := 10) (v := .int (kb_i true)) (ty := .boolean) (C := rn_Mo) (T := fd_Mo) (N := 36) hx hb hts in_Mo ty_Mo tk_Mo nm_Mo hown hK hP hD hS 0 rfl rfl 6 (by decide) (hts _ wd_752) (fun _ h9 => h9) rfl (by decide +kernel) (kb_nar _) (kb_fit _) (Nat.le_of_ble_eq_true rfl) dc_Mo_take_97 (fun H locs hP hD hS => ?_)
                        have hP : va_P D kc_l [mo_c o mth mty x0 mat mfr mto true mrd x1 x2 x3 mhf mhp mcl mck mba mct x4 x5 x6 x7 x8 mst x9 x10 x11 x12 mtr mrs x13 x14 x15 x16 mwr x17 mfo, ar_n cI x1 16 rz, ar_i cI x2 128 rl] H := hP
                        have hD : va_D A [mo_c o mth mty x0 mat mfr mto true mrd x1 x2 x3 mhf mhp mcl mck mba mct x4 x5 x6 x7 x8 mst x9 x10 x11 x12 mtr mrs x13 x14 x15 x16 mwr x17 mfo, ar_n cI x1 16 rz, ar_i cI x2 128 rl] := hD
                        refine lv_iinc (k := 1) (v := nI (k + 1)) (lv' := [(4, .int (nI (k + 1))), (5, .int (pt_lit (bb k))), (3, .int (nI (b % 8 + 1))), (0, .ref o), (1, .int (pt_lit b)), (2, .int (nI v))]) hx hb dc_Mo_take_100 hl rfl (nI_1 _) (by decide) rfl (fun ls hl => ?_)
                        refine lv_goto hx hb dc_Mo_take_103 rfl ?_
                        have hl := lv_sub (l' := [(4, .int (nI (k + 1))), (3, .int (nI (b % 8 + 1))), (0, .ref o), (1, .int (pt_lit b)), (2, .int (nI v))]) hl [0, 2, 3, 4, 5] rfl
                        exact ih_40 _ _ _ _ (by omega) hP hD hS hl (by omega) (fun j hj => (Nat.lt_or_ge j k).elim (fun q => h3 j q) (fun q => by rw [show j = k by omega]; exact hne))
            exact lp_40 _ 0 _ _ _ (Nat.lt_succ_self _) hP hD hS hl (by omega) (fun j hj => absurd hj (Nat.not_lt_zero j))

set_option maxHeartbeats 4000000 in
set_option maxRecDepth 100000 in
theorem ct_Mo_take_big (l : Launch) (D : va_G) (cI cZ : ClassId) (sz : Nat) (o : Nat) (mth : Nat) (mty : Nat) (x0 : Nat) (mat : Nat) (mfr : Nat) (mto : Nat) (mgd : Bool) (mrd : Nat) (x1 : Nat) (x2 : Nat) (x3 : Nat) (mhf : Bool) (mhp : Bool) (mcl : Bool) (mck : Bool) (mba : Nat) (mct : Nat) (x4 : Nat) (x5 : Nat) (x6 : Nat) (x7 : Nat) (x8 : Nat) (mst : Nat) (x9 : Nat) (x10 : Nat) (x11 : Nat) (x12 : Nat) (mtr : Nat) (mrs : Nat) (x13 : Nat) (x14 : Nat) (x15 : Nat) (x16 : Nat) (mwr : Nat) (x17 : Nat) (mfo : Nat) (rz : Nat → Nat) (rl : Nat → Int32) (b : Nat) (v : Nat) (hgd : mgd = true) (hrd : mrd < 16) (hb16 : b < 16) (hv8 : v ≤ 8) (hbv : v < b % 8 + 1) (hz8 : rz mrd ≤ 8) : Met l yn_Mo_take (Cond.code yn_Mo_take bc_Mo_take 6 none :: kx_all) ({ frames := 0, cells := 0, slots := 0, locals := 0 } : Room) (kp [.ref o, .int (pt_lit b), .int (nI v)] D cI cZ [mo_c o mth mty x0 mat mfr mto mgd mrd x1 x2 x3 mhf mhp mcl mck mba mct x4 x5 x6 x7 x8 mst x9 x10 x11 x12 mtr mrs x13 x14 x15 x16 mwr x17 mfo, ar_n cI x1 16 rz, ar_i cI x2 128 rl] sz) (kw_q none D kc_l [mo_c o mth mty x0 mat mfr mto false mrd x1 x2 x3 mhf mhp mcl mck mba mct x4 x5 x6 x7 x8 mst x9 x10 x11 x12 mtr mrs x13 x14 x15 x16 mwr x17 mfo, ar_n cI x1 16 rz, ar_i cI x2 128 rl] (va_A [mo_c o mth mty x0 mat mfr mto mgd mrd x1 x2 x3 mhf mhp mcl mck mba mct x4 x5 x6 x7 x8 mst x9 x10 x11 x12 mtr mrs x13 x14 x15 x16 mwr x17 mfo, ar_n cI x1 16 rz, ar_i cI x2 128 rl] sz)) 0 0 (va_A [mo_c o mth mty x0 mat mfr mto mgd mrd x1 x2 x3 mhf mhp mcl mck mba mct x4 x5 x6 x7 x8 mst x9 x10 x11 x12 mtr mrs x13 x14 x15 x16 mwr x17 mfo, ar_n cI x1 16 rz, ar_i cI x2 128 rl] sz) := by
  refine kx_metW (by decide) (Nat.le_of_ble_eq_true rfl) ?_
  intro p e s m below meth c ls A hx hb hr hml hts hown hlocks hin hA hP hK hD hN hl hS
  have hown : s.vm.findClass rn_Mo = some m.cls := hown
  have hl : lv_has ls 6 [(0, .ref o), (1, .int (pt_lit b)), (2, .int (nI v))] := hl
  by_cases h8 : b < 8
  · refine lv_iload_n hx hb dc_Mo_take_0 rfl (lv_at hl 1 rfl) ?_
    refine lv_if_ge hx hb dc_Mo_take_1 rfl (fun hc1 => ?_) (fun hc1 => ?_)
    · refine lv_iload_n hx hb dc_Mo_take_9 rfl (lv_at hl 1 rfl) ?_
      refine kn_top (y := nI (b % 8 + 1)) (lit_ap b h8) ?_
      refine lv_istore_n (lv' := [(3, .int (nI (b % 8 + 1))), (0, .ref o), (1, .int (pt_lit b)), (2, .int (nI v))]) hx hb dc_Mo_take_10 rfl hl (by decide) rfl (fun ls hl => ?_)
      refine lv_aload_n hx hb dc_Mo_take_11 rfl (lv_at hl 1 rfl) ?_
      refine lv_aload_n hx hb dc_Mo_take_12 rfl (lv_at hl 1 rfl) ?_
      refine va_get (ci := 10) (v := .int (kb_i mgd)) (C := rn_Mo) (T := fd_Mo) (N := 36) hx hb hts in_Mo hown hK hP 0 rfl rfl 6 (by decide) (hts _ wd_752) (fun _ h9 => h9) rfl dc_Mo_take_13 ?_
      refine kb_if_eq hx hb dc_Mo_take_16 rfl (fun hc16 => ?_) (fun hc16 => ?_)
      · exact absurd hc16 (by rw [hgd]; decide)
      · refine lv_iload_n hx hb dc_Mo_take_19 rfl (lv_at hl 0 rfl) ?_
        refine lv_iconst (v := nI 1) hx hb dc_Mo_take_20 (by decide +kernel) ?_
        refine kn_icmp_lt hx hb (by omega) (by omega) dc_Mo_take_21 rfl (fun hc21 => ?_) (fun hc21 => ?_)
        · exfalso; omega
        · refine lv_iload_n hx hb dc_Mo_take_24 rfl (lv_at hl 0 rfl) ?_
          refine lv_iload_n hx hb dc_Mo_take_25 rfl (lv_at hl 3 rfl) ?_
          refine kn_icmp_gt hx hb (by omega) (by omega) dc_Mo_take_26 rfl (fun hc26 => ?_) (fun hc26 => ?_)
          · refine lv_iconst (v := nI 0) hx hb dc_Mo_take_33 (by decide +kernel) ?_
            refine kn_top (y := kb_i false) (by decide +kernel) ?_
            refine va_put (ci := 10) (v := .int (kb_i false)) (ty := .boolean) (C := rn_Mo) (T := fd_Mo) (N := 36) hx hb hts in_Mo ty_Mo tk_Mo nm_Mo hown hK hP hD hS 0 rfl rfl 6 (by decide) (hts _ wd_752) (fun _ h9 => h9) rfl (by decide +kernel) (kb_nar _) (kb_fit _) (Nat.le_of_ble_eq_true rfl) dc_Mo_take_34 (fun H locs hP hD hS => ?_)
            have hP : va_P D kc_l [mo_c o mth mty x0 mat mfr mto false mrd x1 x2 x3 mhf mhp mcl mck mba mct x4 x5 x6 x7 x8 mst x9 x10 x11 x12 mtr mrs x13 x14 x15 x16 mwr x17 mfo, ar_n cI x1 16 rz, ar_i cI x2 128 rl] H := hP
            have hD : va_D A [mo_c o mth mty x0 mat mfr mto false mrd x1 x2 x3 mhf mhp mcl mck mba mct x4 x5 x6 x7 x8 mst x9 x10 x11 x12 mtr mrs x13 x14 x15 x16 mwr x17 mfo, ar_n cI x1 16 rz, ar_i cI x2 128 rl] := hD
            refine lv_iconst (v := nI 0) hx hb dc_Mo_take_37 (by decide +kernel) ?_
            refine lv_istore (lv' := [(4, .int (nI 0)), (3, .int (nI (b % 8 + 1))), (0, .ref o), (1, .int (pt_lit b)), (2, .int (nI v))]) hx hb dc_Mo_take_38 hl (by decide) rfl (fun ls hl => ?_)
            refine lv_iload hx hb dc_Mo_take_40 (lv_at hl 0 rfl) ?_
            refine lv_aload_n hx hb dc_Mo_take_42 rfl (lv_at hl 2 rfl) ?_
            refine va_get (ci := 10) (v := .ref x1) (C := rn_Mo) (T := fd_Mo) (N := 36) hx hb hts in_Mo hown hK hP 0 rfl rfl 8 (by decide) (hts _ wd_754) (fun _ h9 => h9) rfl dc_Mo_take_43 ?_
            refine lv_aload_n hx hb dc_Mo_take_46 rfl (lv_at hl 2 rfl) ?_
            refine va_get (ci := 10) (v := .int (nI mrd)) (C := rn_Mo) (T := fd_Mo) (N := 36) hx hb hts in_Mo hown hK hP 0 rfl rfl 7 (by decide) (hts _ wd_753) (fun _ h9 => h9) rfl dc_Mo_take_47 ?_
            refine ka_nald (t := rz) hx hb hK hP 1 0 rfl rfl (j := mrd) (by omega) (by omega) dc_Mo_take_50 ?_
            refine kn_icmp_ge hx hb (by omega) (by omega) dc_Mo_take_51 rfl (fun hc51 => ?_) (fun hc51 => ?_)
            · refine lv_aload_n hx hb dc_Mo_take_106 rfl (lv_at hl 2 rfl) ?_
              refine va_get (ci := 10) (v := .int (kb_i false)) (C := rn_Mo) (T := fd_Mo) (N := 36) hx hb hts in_Mo hown hK hP 0 rfl rfl 6 (by decide) (hts _ wd_752) (fun _ h9 => h9) rfl dc_Mo_take_107 ?_
              refine kb_if_eq hx hb dc_Mo_take_110 rfl (fun hc110 => ?_) (fun hc110 => ?_)
              · exact kw_vret hx hb hr hlocks hP hD hS dc_Mo_take_149 (rfl)
              · exact absurd hc110 (by decide)
            · refine lv_aload_n hx hb dc_Mo_take_54 rfl (lv_at hl 2 rfl) ?_
              refine va_get (ci := 10) (v := .int (kb_i false)) (C := rn_Mo) (T := fd_Mo) (N := 36) hx hb hts in_Mo hown hK hP 0 rfl rfl 6 (by decide) (hts _ wd_752) (fun _ h9 => h9) rfl dc_Mo_take_55 ?_
              refine kb_if_eq hx hb dc_Mo_take_58 rfl (fun hc58 => ?_) (fun hc58 => ?_)
              · refine lv_aload_n hx hb dc_Mo_take_106 rfl (lv_at hl 2 rfl) ?_
                refine va_get (ci := 10) (v := .int (kb_i false)) (C := rn_Mo) (T := fd_Mo) (N := 36) hx hb hts in_Mo hown hK hP 0 rfl rfl 6 (by decide) (hts _ wd_752) (fun _ h9 => h9) rfl dc_Mo_take_107 ?_
                refine kb_if_eq hx hb dc_Mo_take_110 rfl (fun hc110 => ?_) (fun hc110 => ?_)
                · exact kw_vret hx hb hr hlocks hP hD hS dc_Mo_take_149 (rfl)
                · exact absurd hc110 (by decide)
              · exact absurd hc58 (by decide)
          · exfalso; omega
    · exact absurd (lit_pp b h8) hc1
  · refine lv_iload_n hx hb dc_Mo_take_0 rfl (lv_at hl 1 rfl) ?_
    refine lv_if_ge hx hb dc_Mo_take_1 rfl (fun hc1 => ?_) (fun hc1 => ?_)
    · exact absurd hc1 (lit_nn b hb16 (by omega))
    · refine lv_iload_n hx hb dc_Mo_take_4 rfl (lv_at hl 1 rfl) ?_
      refine lv_ineg hx hb dc_Mo_take_5 ?_
      refine kn_top (y := nI (b % 8 + 1)) (lit_an b hb16 (by omega)) ?_
      refine lv_goto hx hb dc_Mo_take_6 rfl ?_
      refine lv_istore_n (lv' := [(3, .int (nI (b % 8 + 1))), (0, .ref o), (1, .int (pt_lit b)), (2, .int (nI v))]) hx hb dc_Mo_take_10 rfl hl (by decide) rfl (fun ls hl => ?_)
      refine lv_aload_n hx hb dc_Mo_take_11 rfl (lv_at hl 1 rfl) ?_
      refine lv_aload_n hx hb dc_Mo_take_12 rfl (lv_at hl 1 rfl) ?_
      refine va_get (ci := 10) (v := .int (kb_i mgd)) (C := rn_Mo) (T := fd_Mo) (N := 36) hx hb hts in_Mo hown hK hP 0 rfl rfl 6 (by decide) (hts _ wd_752) (fun _ h9 => h9) rfl dc_Mo_take_13 ?_
      refine kb_if_eq hx hb dc_Mo_take_16 rfl (fun hc16 => ?_) (fun hc16 => ?_)
      · exact absurd hc16 (by rw [hgd]; decide)
      · refine lv_iload_n hx hb dc_Mo_take_19 rfl (lv_at hl 0 rfl) ?_
        refine lv_iconst (v := nI 1) hx hb dc_Mo_take_20 (by decide +kernel) ?_
        refine kn_icmp_lt hx hb (by omega) (by omega) dc_Mo_take_21 rfl (fun hc21 => ?_) (fun hc21 => ?_)
        · exfalso; omega
        · refine lv_iload_n hx hb dc_Mo_take_24 rfl (lv_at hl 0 rfl) ?_
          refine lv_iload_n hx hb dc_Mo_take_25 rfl (lv_at hl 3 rfl) ?_
          refine kn_icmp_gt hx hb (by omega) (by omega) dc_Mo_take_26 rfl (fun hc26 => ?_) (fun hc26 => ?_)
          · refine lv_iconst (v := nI 0) hx hb dc_Mo_take_33 (by decide +kernel) ?_
            refine kn_top (y := kb_i false) (by decide +kernel) ?_
            refine va_put (ci := 10) (v := .int (kb_i false)) (ty := .boolean) (C := rn_Mo) (T := fd_Mo) (N := 36) hx hb hts in_Mo ty_Mo tk_Mo nm_Mo hown hK hP hD hS 0 rfl rfl 6 (by decide) (hts _ wd_752) (fun _ h9 => h9) rfl (by decide +kernel) (kb_nar _) (kb_fit _) (Nat.le_of_ble_eq_true rfl) dc_Mo_take_34 (fun H locs hP hD hS => ?_)
            have hP : va_P D kc_l [mo_c o mth mty x0 mat mfr mto false mrd x1 x2 x3 mhf mhp mcl mck mba mct x4 x5 x6 x7 x8 mst x9 x10 x11 x12 mtr mrs x13 x14 x15 x16 mwr x17 mfo, ar_n cI x1 16 rz, ar_i cI x2 128 rl] H := hP
            have hD : va_D A [mo_c o mth mty x0 mat mfr mto false mrd x1 x2 x3 mhf mhp mcl mck mba mct x4 x5 x6 x7 x8 mst x9 x10 x11 x12 mtr mrs x13 x14 x15 x16 mwr x17 mfo, ar_n cI x1 16 rz, ar_i cI x2 128 rl] := hD
            refine lv_iconst (v := nI 0) hx hb dc_Mo_take_37 (by decide +kernel) ?_
            refine lv_istore (lv' := [(4, .int (nI 0)), (3, .int (nI (b % 8 + 1))), (0, .ref o), (1, .int (pt_lit b)), (2, .int (nI v))]) hx hb dc_Mo_take_38 hl (by decide) rfl (fun ls hl => ?_)
            refine lv_iload hx hb dc_Mo_take_40 (lv_at hl 0 rfl) ?_
            refine lv_aload_n hx hb dc_Mo_take_42 rfl (lv_at hl 2 rfl) ?_
            refine va_get (ci := 10) (v := .ref x1) (C := rn_Mo) (T := fd_Mo) (N := 36) hx hb hts in_Mo hown hK hP 0 rfl rfl 8 (by decide) (hts _ wd_754) (fun _ h9 => h9) rfl dc_Mo_take_43 ?_
            refine lv_aload_n hx hb dc_Mo_take_46 rfl (lv_at hl 2 rfl) ?_
            refine va_get (ci := 10) (v := .int (nI mrd)) (C := rn_Mo) (T := fd_Mo) (N := 36) hx hb hts in_Mo hown hK hP 0 rfl rfl 7 (by decide) (hts _ wd_753) (fun _ h9 => h9) rfl dc_Mo_take_47 ?_
            refine ka_nald (t := rz) hx hb hK hP 1 0 rfl rfl (j := mrd) (by omega) (by omega) dc_Mo_take_50 ?_
            refine kn_icmp_ge hx hb (by omega) (by omega) dc_Mo_take_51 rfl (fun hc51 => ?_) (fun hc51 => ?_)
            · refine lv_aload_n hx hb dc_Mo_take_106 rfl (lv_at hl 2 rfl) ?_
              refine va_get (ci := 10) (v := .int (kb_i false)) (C := rn_Mo) (T := fd_Mo) (N := 36) hx hb hts in_Mo hown hK hP 0 rfl rfl 6 (by decide) (hts _ wd_752) (fun _ h9 => h9) rfl dc_Mo_take_107 ?_
              refine kb_if_eq hx hb dc_Mo_take_110 rfl (fun hc110 => ?_) (fun hc110 => ?_)
              · exact kw_vret hx hb hr hlocks hP hD hS dc_Mo_take_149 (rfl)
              · exact absurd hc110 (by decide)
            · refine lv_aload_n hx hb dc_Mo_take_54 rfl (lv_at hl 2 rfl) ?_
              refine va_get (ci := 10) (v := .int (kb_i false)) (C := rn_Mo) (T := fd_Mo) (N := 36) hx hb hts in_Mo hown hK hP 0 rfl rfl 6 (by decide) (hts _ wd_752) (fun _ h9 => h9) rfl dc_Mo_take_55 ?_
              refine kb_if_eq hx hb dc_Mo_take_58 rfl (fun hc58 => ?_) (fun hc58 => ?_)
              · refine lv_aload_n hx hb dc_Mo_take_106 rfl (lv_at hl 2 rfl) ?_
                refine va_get (ci := 10) (v := .int (kb_i false)) (C := rn_Mo) (T := fd_Mo) (N := 36) hx hb hts in_Mo hown hK hP 0 rfl rfl 6 (by decide) (hts _ wd_752) (fun _ h9 => h9) rfl dc_Mo_take_107 ?_
                refine kb_if_eq hx hb dc_Mo_take_110 rfl (fun hc110 => ?_) (fun hc110 => ?_)
                · exact kw_vret hx hb hr hlocks hP hD hS dc_Mo_take_149 (rfl)
                · exact absurd hc110 (by decide)
              · exact absurd hc58 (by decide)
          · exfalso; omega

theorem i_ltle {x : Int32} {v : Nat} (h : nI 8 < x) (hv : v ≤ 8) : nI v < x := by
  rw [Int32.lt_iff_toInt_lt] at h ⊢
  rw [nI_toInt (by decide)] at h
  rw [nI_toInt (by omega)]
  omega

set_option maxHeartbeats 4000000 in
set_option maxRecDepth 100000 in
theorem ct_Mo_take_no (l : Launch) (D : va_G) (cI cZ : ClassId) (sz : Nat) (o : Nat) (mth : Nat) (mty : Nat) (x0 : Nat) (mat : Nat) (mfr : Nat) (mto : Nat) (mgd : Bool) (mrd : Nat) (x1 : Nat) (x2 : Nat) (x3 : Nat) (mhf : Bool) (mhp : Bool) (mcl : Bool) (mck : Bool) (mba : Nat) (mct : Nat) (x4 : Nat) (x5 : Nat) (x6 : Nat) (x7 : Nat) (x8 : Nat) (mst : Nat) (x9 : Nat) (x10 : Nat) (x11 : Nat) (x12 : Nat) (mtr : Nat) (mrs : Nat) (x13 : Nat) (x14 : Nat) (x15 : Nat) (x16 : Nat) (mwr : Nat) (x17 : Nat) (mfo : Nat) (rz : Nat → Nat) (x : Int32) (v : Nat) (hgd : mgd = true) (hrd : mrd < 16) (hv8 : v ≤ 8) (hno : pt_no x) (hz8 : rz mrd ≤ 8) : Met l yn_Mo_take (Cond.code yn_Mo_take bc_Mo_take 6 none :: kx_all) ({ frames := 0, cells := 0, slots := 0, locals := 0 } : Room) (kp [.ref o, .int x, .int (nI v)] D cI cZ [mo_c o mth mty x0 mat mfr mto mgd mrd x1 x2 x3 mhf mhp mcl mck mba mct x4 x5 x6 x7 x8 mst x9 x10 x11 x12 mtr mrs x13 x14 x15 x16 mwr x17 mfo, ar_n cI x1 16 rz] sz) (kw_q none D kc_l [mo_c o mth mty x0 mat mfr mto false mrd x1 x2 x3 mhf mhp mcl mck mba mct x4 x5 x6 x7 x8 mst x9 x10 x11 x12 mtr mrs x13 x14 x15 x16 mwr x17 mfo, ar_n cI x1 16 rz] (va_A [mo_c o mth mty x0 mat mfr mto mgd mrd x1 x2 x3 mhf mhp mcl mck mba mct x4 x5 x6 x7 x8 mst x9 x10 x11 x12 mtr mrs x13 x14 x15 x16 mwr x17 mfo, ar_n cI x1 16 rz] sz)) 0 0 (va_A [mo_c o mth mty x0 mat mfr mto mgd mrd x1 x2 x3 mhf mhp mcl mck mba mct x4 x5 x6 x7 x8 mst x9 x10 x11 x12 mtr mrs x13 x14 x15 x16 mwr x17 mfo, ar_n cI x1 16 rz] sz) := by
  refine kx_metW (by decide) (Nat.le_of_ble_eq_true rfl) ?_
  intro p e s m below meth c ls A hx hb hr hml hts hown hlocks hin hA hP hK hD hN hl hS
  have hown : s.vm.findClass rn_Mo = some m.cls := hown
  have hl : lv_has ls 6 [(0, .ref o), (1, .int x), (2, .int (nI v))] := hl
  refine lv_iload_n hx hb dc_Mo_take_0 rfl (lv_at hl 1 rfl) ?_
  refine lv_if_ge hx hb dc_Mo_take_1 rfl (fun hc1 => ?_) (fun hc1 => ?_)
  · refine lv_iload_n hx hb dc_Mo_take_9 rfl (lv_at hl 1 rfl) ?_
    refine lv_istore_n (lv' := [(3, .int x), (0, .ref o), (1, .int x), (2, .int (nI v))]) hx hb dc_Mo_take_10 rfl hl (by decide) rfl (fun ls hl => ?_)
    refine lv_aload_n hx hb dc_Mo_take_11 rfl (lv_at hl 1 rfl) ?_
    refine lv_aload_n hx hb dc_Mo_take_12 rfl (lv_at hl 1 rfl) ?_
    refine va_get (ci := 10) (v := .int (kb_i mgd)) (C := rn_Mo) (T := fd_Mo) (N := 36) hx hb hts in_Mo hown hK hP 0 rfl rfl 6 (by decide) (hts _ wd_752) (fun _ h9 => h9) rfl dc_Mo_take_13 ?_
    refine kb_if_eq hx hb dc_Mo_take_16 rfl (fun hc16 => ?_) (fun hc16 => ?_)
    · exact absurd hc16 (by rw [hgd]; decide)
    · refine lv_iload_n hx hb dc_Mo_take_19 rfl (lv_at hl 0 rfl) ?_
      refine lv_iconst (v := nI 1) hx hb dc_Mo_take_20 (by decide +kernel) ?_
      refine lv_icmp_lt hx hb dc_Mo_take_21 rfl (fun hc21 => ?_) (fun hc21 => ?_)
      · refine lv_iconst (v := nI 0) hx hb dc_Mo_take_33 (by decide +kernel) ?_
        refine kn_top (y := kb_i false) (by decide +kernel) ?_
        refine va_put (ci := 10) (v := .int (kb_i false)) (ty := .boolean) (C := rn_Mo) (T := fd_Mo) (N := 36) hx hb hts in_Mo ty_Mo tk_Mo nm_Mo hown hK hP hD hS 0 rfl rfl 6 (by decide) (hts _ wd_752) (fun _ h9 => h9) rfl (by decide +kernel) (kb_nar _) (kb_fit _) (Nat.le_of_ble_eq_true rfl) dc_Mo_take_34 (fun H locs hP hD hS => ?_)
        have hP : va_P D kc_l [mo_c o mth mty x0 mat mfr mto false mrd x1 x2 x3 mhf mhp mcl mck mba mct x4 x5 x6 x7 x8 mst x9 x10 x11 x12 mtr mrs x13 x14 x15 x16 mwr x17 mfo, ar_n cI x1 16 rz] H := hP
        have hD : va_D A [mo_c o mth mty x0 mat mfr mto false mrd x1 x2 x3 mhf mhp mcl mck mba mct x4 x5 x6 x7 x8 mst x9 x10 x11 x12 mtr mrs x13 x14 x15 x16 mwr x17 mfo, ar_n cI x1 16 rz] := hD
        refine lv_iconst (v := nI 0) hx hb dc_Mo_take_37 (by decide +kernel) ?_
        refine lv_istore (lv' := [(4, .int (nI 0)), (3, .int x), (0, .ref o), (1, .int x), (2, .int (nI v))]) hx hb dc_Mo_take_38 hl (by decide) rfl (fun ls hl => ?_)
        refine lv_iload hx hb dc_Mo_take_40 (lv_at hl 0 rfl) ?_
        refine lv_aload_n hx hb dc_Mo_take_42 rfl (lv_at hl 2 rfl) ?_
        refine va_get (ci := 10) (v := .ref x1) (C := rn_Mo) (T := fd_Mo) (N := 36) hx hb hts in_Mo hown hK hP 0 rfl rfl 8 (by decide) (hts _ wd_754) (fun _ h9 => h9) rfl dc_Mo_take_43 ?_
        refine lv_aload_n hx hb dc_Mo_take_46 rfl (lv_at hl 2 rfl) ?_
        refine va_get (ci := 10) (v := .int (nI mrd)) (C := rn_Mo) (T := fd_Mo) (N := 36) hx hb hts in_Mo hown hK hP 0 rfl rfl 7 (by decide) (hts _ wd_753) (fun _ h9 => h9) rfl dc_Mo_take_47 ?_
        refine ka_nald (t := rz) hx hb hK hP 1 0 rfl rfl (j := mrd) (by omega) (by omega) dc_Mo_take_50 ?_
        refine kn_icmp_ge hx hb (by omega) (by omega) dc_Mo_take_51 rfl (fun hc51 => ?_) (fun hc51 => ?_)
        · refine lv_aload_n hx hb dc_Mo_take_106 rfl (lv_at hl 2 rfl) ?_
          refine va_get (ci := 10) (v := .int (kb_i false)) (C := rn_Mo) (T := fd_Mo) (N := 36) hx hb hts in_Mo hown hK hP 0 rfl rfl 6 (by decide) (hts _ wd_752) (fun _ h9 => h9) rfl dc_Mo_take_107 ?_
          refine kb_if_eq hx hb dc_Mo_take_110 rfl (fun hc110 => ?_) (fun hc110 => ?_)
          · exact kw_vret hx hb hr hlocks hP hD hS dc_Mo_take_149 (rfl)
          · exact absurd hc110 (by decide)
        · refine lv_aload_n hx hb dc_Mo_take_54 rfl (lv_at hl 2 rfl) ?_
          refine va_get (ci := 10) (v := .int (kb_i false)) (C := rn_Mo) (T := fd_Mo) (N := 36) hx hb hts in_Mo hown hK hP 0 rfl rfl 6 (by decide) (hts _ wd_752) (fun _ h9 => h9) rfl dc_Mo_take_55 ?_
          refine kb_if_eq hx hb dc_Mo_take_58 rfl (fun hc58 => ?_) (fun hc58 => ?_)
          · refine lv_aload_n hx hb dc_Mo_take_106 rfl (lv_at hl 2 rfl) ?_
            refine va_get (ci := 10) (v := .int (kb_i false)) (C := rn_Mo) (T := fd_Mo) (N := 36) hx hb hts in_Mo hown hK hP 0 rfl rfl 6 (by decide) (hts _ wd_752) (fun _ h9 => h9) rfl dc_Mo_take_107 ?_
            refine kb_if_eq hx hb dc_Mo_take_110 rfl (fun hc110 => ?_) (fun hc110 => ?_)
            · exact kw_vret hx hb hr hlocks hP hD hS dc_Mo_take_149 (rfl)
            · exact absurd hc110 (by decide)
          · exact absurd hc58 (by decide)
      · refine lv_iload_n hx hb dc_Mo_take_24 rfl (lv_at hl 0 rfl) ?_
        refine lv_iload_n hx hb dc_Mo_take_25 rfl (lv_at hl 3 rfl) ?_
        refine lv_icmp_gt hx hb dc_Mo_take_26 rfl (fun hc26 => ?_) (fun hc26 => ?_)
        · refine lv_iconst (v := nI 0) hx hb dc_Mo_take_33 (by decide +kernel) ?_
          refine kn_top (y := kb_i false) (by decide +kernel) ?_
          refine va_put (ci := 10) (v := .int (kb_i false)) (ty := .boolean) (C := rn_Mo) (T := fd_Mo) (N := 36) hx hb hts in_Mo ty_Mo tk_Mo nm_Mo hown hK hP hD hS 0 rfl rfl 6 (by decide) (hts _ wd_752) (fun _ h9 => h9) rfl (by decide +kernel) (kb_nar _) (kb_fit _) (Nat.le_of_ble_eq_true rfl) dc_Mo_take_34 (fun H locs hP hD hS => ?_)
          have hP : va_P D kc_l [mo_c o mth mty x0 mat mfr mto false mrd x1 x2 x3 mhf mhp mcl mck mba mct x4 x5 x6 x7 x8 mst x9 x10 x11 x12 mtr mrs x13 x14 x15 x16 mwr x17 mfo, ar_n cI x1 16 rz] H := hP
          have hD : va_D A [mo_c o mth mty x0 mat mfr mto false mrd x1 x2 x3 mhf mhp mcl mck mba mct x4 x5 x6 x7 x8 mst x9 x10 x11 x12 mtr mrs x13 x14 x15 x16 mwr x17 mfo, ar_n cI x1 16 rz] := hD
          refine lv_iconst (v := nI 0) hx hb dc_Mo_take_37 (by decide +kernel) ?_
          refine lv_istore (lv' := [(4, .int (nI 0)), (3, .int x), (0, .ref o), (1, .int x), (2, .int (nI v))]) hx hb dc_Mo_take_38 hl (by decide) rfl (fun ls hl => ?_)
          refine lv_iload hx hb dc_Mo_take_40 (lv_at hl 0 rfl) ?_
          refine lv_aload_n hx hb dc_Mo_take_42 rfl (lv_at hl 2 rfl) ?_
          refine va_get (ci := 10) (v := .ref x1) (C := rn_Mo) (T := fd_Mo) (N := 36) hx hb hts in_Mo hown hK hP 0 rfl rfl 8 (by decide) (hts _ wd_754) (fun _ h9 => h9) rfl dc_Mo_take_43 ?_
          refine lv_aload_n hx hb dc_Mo_take_46 rfl (lv_at hl 2 rfl) ?_
          refine va_get (ci := 10) (v := .int (nI mrd)) (C := rn_Mo) (T := fd_Mo) (N := 36) hx hb hts in_Mo hown hK hP 0 rfl rfl 7 (by decide) (hts _ wd_753) (fun _ h9 => h9) rfl dc_Mo_take_47 ?_
          refine ka_nald (t := rz) hx hb hK hP 1 0 rfl rfl (j := mrd) (by omega) (by omega) dc_Mo_take_50 ?_
          refine kn_icmp_ge hx hb (by omega) (by omega) dc_Mo_take_51 rfl (fun hc51 => ?_) (fun hc51 => ?_)
          · refine lv_aload_n hx hb dc_Mo_take_106 rfl (lv_at hl 2 rfl) ?_
            refine va_get (ci := 10) (v := .int (kb_i false)) (C := rn_Mo) (T := fd_Mo) (N := 36) hx hb hts in_Mo hown hK hP 0 rfl rfl 6 (by decide) (hts _ wd_752) (fun _ h9 => h9) rfl dc_Mo_take_107 ?_
            refine kb_if_eq hx hb dc_Mo_take_110 rfl (fun hc110 => ?_) (fun hc110 => ?_)
            · exact kw_vret hx hb hr hlocks hP hD hS dc_Mo_take_149 (rfl)
            · exact absurd hc110 (by decide)
          · refine lv_aload_n hx hb dc_Mo_take_54 rfl (lv_at hl 2 rfl) ?_
            refine va_get (ci := 10) (v := .int (kb_i false)) (C := rn_Mo) (T := fd_Mo) (N := 36) hx hb hts in_Mo hown hK hP 0 rfl rfl 6 (by decide) (hts _ wd_752) (fun _ h9 => h9) rfl dc_Mo_take_55 ?_
            refine kb_if_eq hx hb dc_Mo_take_58 rfl (fun hc58 => ?_) (fun hc58 => ?_)
            · refine lv_aload_n hx hb dc_Mo_take_106 rfl (lv_at hl 2 rfl) ?_
              refine va_get (ci := 10) (v := .int (kb_i false)) (C := rn_Mo) (T := fd_Mo) (N := 36) hx hb hts in_Mo hown hK hP 0 rfl rfl 6 (by decide) (hts _ wd_752) (fun _ h9 => h9) rfl dc_Mo_take_107 ?_
              refine kb_if_eq hx hb dc_Mo_take_110 rfl (fun hc110 => ?_) (fun hc110 => ?_)
              · exact kw_vret hx hb hr hlocks hP hD hS dc_Mo_take_149 (rfl)
              · exact absurd hc110 (by decide)
            · exact absurd hc58 (by decide)
        · exfalso; unfold pt_no at hno; rw [if_pos hc1] at hno; exact hno.elim hc21 (fun q => hc26 (i_ltle q hv8))
  · refine lv_iload_n hx hb dc_Mo_take_4 rfl (lv_at hl 1 rfl) ?_
    refine lv_ineg hx hb dc_Mo_take_5 ?_
    refine lv_goto hx hb dc_Mo_take_6 rfl ?_
    refine lv_istore_n (lv' := [(3, .int (-x)), (0, .ref o), (1, .int x), (2, .int (nI v))]) hx hb dc_Mo_take_10 rfl hl (by decide) rfl (fun ls hl => ?_)
    refine lv_aload_n hx hb dc_Mo_take_11 rfl (lv_at hl 1 rfl) ?_
    refine lv_aload_n hx hb dc_Mo_take_12 rfl (lv_at hl 1 rfl) ?_
    refine va_get (ci := 10) (v := .int (kb_i mgd)) (C := rn_Mo) (T := fd_Mo) (N := 36) hx hb hts in_Mo hown hK hP 0 rfl rfl 6 (by decide) (hts _ wd_752) (fun _ h9 => h9) rfl dc_Mo_take_13 ?_
    refine kb_if_eq hx hb dc_Mo_take_16 rfl (fun hc16 => ?_) (fun hc16 => ?_)
    · exact absurd hc16 (by rw [hgd]; decide)
    · refine lv_iload_n hx hb dc_Mo_take_19 rfl (lv_at hl 0 rfl) ?_
      refine lv_iconst (v := nI 1) hx hb dc_Mo_take_20 (by decide +kernel) ?_
      refine lv_icmp_lt hx hb dc_Mo_take_21 rfl (fun hc21 => ?_) (fun hc21 => ?_)
      · refine lv_iconst (v := nI 0) hx hb dc_Mo_take_33 (by decide +kernel) ?_
        refine kn_top (y := kb_i false) (by decide +kernel) ?_
        refine va_put (ci := 10) (v := .int (kb_i false)) (ty := .boolean) (C := rn_Mo) (T := fd_Mo) (N := 36) hx hb hts in_Mo ty_Mo tk_Mo nm_Mo hown hK hP hD hS 0 rfl rfl 6 (by decide) (hts _ wd_752) (fun _ h9 => h9) rfl (by decide +kernel) (kb_nar _) (kb_fit _) (Nat.le_of_ble_eq_true rfl) dc_Mo_take_34 (fun H locs hP hD hS => ?_)
        have hP : va_P D kc_l [mo_c o mth mty x0 mat mfr mto false mrd x1 x2 x3 mhf mhp mcl mck mba mct x4 x5 x6 x7 x8 mst x9 x10 x11 x12 mtr mrs x13 x14 x15 x16 mwr x17 mfo, ar_n cI x1 16 rz] H := hP
        have hD : va_D A [mo_c o mth mty x0 mat mfr mto false mrd x1 x2 x3 mhf mhp mcl mck mba mct x4 x5 x6 x7 x8 mst x9 x10 x11 x12 mtr mrs x13 x14 x15 x16 mwr x17 mfo, ar_n cI x1 16 rz] := hD
        refine lv_iconst (v := nI 0) hx hb dc_Mo_take_37 (by decide +kernel) ?_
        refine lv_istore (lv' := [(4, .int (nI 0)), (3, .int (-x)), (0, .ref o), (1, .int x), (2, .int (nI v))]) hx hb dc_Mo_take_38 hl (by decide) rfl (fun ls hl => ?_)
        refine lv_iload hx hb dc_Mo_take_40 (lv_at hl 0 rfl) ?_
        refine lv_aload_n hx hb dc_Mo_take_42 rfl (lv_at hl 2 rfl) ?_
        refine va_get (ci := 10) (v := .ref x1) (C := rn_Mo) (T := fd_Mo) (N := 36) hx hb hts in_Mo hown hK hP 0 rfl rfl 8 (by decide) (hts _ wd_754) (fun _ h9 => h9) rfl dc_Mo_take_43 ?_
        refine lv_aload_n hx hb dc_Mo_take_46 rfl (lv_at hl 2 rfl) ?_
        refine va_get (ci := 10) (v := .int (nI mrd)) (C := rn_Mo) (T := fd_Mo) (N := 36) hx hb hts in_Mo hown hK hP 0 rfl rfl 7 (by decide) (hts _ wd_753) (fun _ h9 => h9) rfl dc_Mo_take_47 ?_
        refine ka_nald (t := rz) hx hb hK hP 1 0 rfl rfl (j := mrd) (by omega) (by omega) dc_Mo_take_50 ?_
        refine kn_icmp_ge hx hb (by omega) (by omega) dc_Mo_take_51 rfl (fun hc51 => ?_) (fun hc51 => ?_)
        · refine lv_aload_n hx hb dc_Mo_take_106 rfl (lv_at hl 2 rfl) ?_
          refine va_get (ci := 10) (v := .int (kb_i false)) (C := rn_Mo) (T := fd_Mo) (N := 36) hx hb hts in_Mo hown hK hP 0 rfl rfl 6 (by decide) (hts _ wd_752) (fun _ h9 => h9) rfl dc_Mo_take_107 ?_
          refine kb_if_eq hx hb dc_Mo_take_110 rfl (fun hc110 => ?_) (fun hc110 => ?_)
          · exact kw_vret hx hb hr hlocks hP hD hS dc_Mo_take_149 (rfl)
          · exact absurd hc110 (by decide)
        · refine lv_aload_n hx hb dc_Mo_take_54 rfl (lv_at hl 2 rfl) ?_
          refine va_get (ci := 10) (v := .int (kb_i false)) (C := rn_Mo) (T := fd_Mo) (N := 36) hx hb hts in_Mo hown hK hP 0 rfl rfl 6 (by decide) (hts _ wd_752) (fun _ h9 => h9) rfl dc_Mo_take_55 ?_
          refine kb_if_eq hx hb dc_Mo_take_58 rfl (fun hc58 => ?_) (fun hc58 => ?_)
          · refine lv_aload_n hx hb dc_Mo_take_106 rfl (lv_at hl 2 rfl) ?_
            refine va_get (ci := 10) (v := .int (kb_i false)) (C := rn_Mo) (T := fd_Mo) (N := 36) hx hb hts in_Mo hown hK hP 0 rfl rfl 6 (by decide) (hts _ wd_752) (fun _ h9 => h9) rfl dc_Mo_take_107 ?_
            refine kb_if_eq hx hb dc_Mo_take_110 rfl (fun hc110 => ?_) (fun hc110 => ?_)
            · exact kw_vret hx hb hr hlocks hP hD hS dc_Mo_take_149 (rfl)
            · exact absurd hc110 (by decide)
          · exact absurd hc58 (by decide)
      · refine lv_iload_n hx hb dc_Mo_take_24 rfl (lv_at hl 0 rfl) ?_
        refine lv_iload_n hx hb dc_Mo_take_25 rfl (lv_at hl 3 rfl) ?_
        refine lv_icmp_gt hx hb dc_Mo_take_26 rfl (fun hc26 => ?_) (fun hc26 => ?_)
        · refine lv_iconst (v := nI 0) hx hb dc_Mo_take_33 (by decide +kernel) ?_
          refine kn_top (y := kb_i false) (by decide +kernel) ?_
          refine va_put (ci := 10) (v := .int (kb_i false)) (ty := .boolean) (C := rn_Mo) (T := fd_Mo) (N := 36) hx hb hts in_Mo ty_Mo tk_Mo nm_Mo hown hK hP hD hS 0 rfl rfl 6 (by decide) (hts _ wd_752) (fun _ h9 => h9) rfl (by decide +kernel) (kb_nar _) (kb_fit _) (Nat.le_of_ble_eq_true rfl) dc_Mo_take_34 (fun H locs hP hD hS => ?_)
          have hP : va_P D kc_l [mo_c o mth mty x0 mat mfr mto false mrd x1 x2 x3 mhf mhp mcl mck mba mct x4 x5 x6 x7 x8 mst x9 x10 x11 x12 mtr mrs x13 x14 x15 x16 mwr x17 mfo, ar_n cI x1 16 rz] H := hP
          have hD : va_D A [mo_c o mth mty x0 mat mfr mto false mrd x1 x2 x3 mhf mhp mcl mck mba mct x4 x5 x6 x7 x8 mst x9 x10 x11 x12 mtr mrs x13 x14 x15 x16 mwr x17 mfo, ar_n cI x1 16 rz] := hD
          refine lv_iconst (v := nI 0) hx hb dc_Mo_take_37 (by decide +kernel) ?_
          refine lv_istore (lv' := [(4, .int (nI 0)), (3, .int (-x)), (0, .ref o), (1, .int x), (2, .int (nI v))]) hx hb dc_Mo_take_38 hl (by decide) rfl (fun ls hl => ?_)
          refine lv_iload hx hb dc_Mo_take_40 (lv_at hl 0 rfl) ?_
          refine lv_aload_n hx hb dc_Mo_take_42 rfl (lv_at hl 2 rfl) ?_
          refine va_get (ci := 10) (v := .ref x1) (C := rn_Mo) (T := fd_Mo) (N := 36) hx hb hts in_Mo hown hK hP 0 rfl rfl 8 (by decide) (hts _ wd_754) (fun _ h9 => h9) rfl dc_Mo_take_43 ?_
          refine lv_aload_n hx hb dc_Mo_take_46 rfl (lv_at hl 2 rfl) ?_
          refine va_get (ci := 10) (v := .int (nI mrd)) (C := rn_Mo) (T := fd_Mo) (N := 36) hx hb hts in_Mo hown hK hP 0 rfl rfl 7 (by decide) (hts _ wd_753) (fun _ h9 => h9) rfl dc_Mo_take_47 ?_
          refine ka_nald (t := rz) hx hb hK hP 1 0 rfl rfl (j := mrd) (by omega) (by omega) dc_Mo_take_50 ?_
          refine kn_icmp_ge hx hb (by omega) (by omega) dc_Mo_take_51 rfl (fun hc51 => ?_) (fun hc51 => ?_)
          · refine lv_aload_n hx hb dc_Mo_take_106 rfl (lv_at hl 2 rfl) ?_
            refine va_get (ci := 10) (v := .int (kb_i false)) (C := rn_Mo) (T := fd_Mo) (N := 36) hx hb hts in_Mo hown hK hP 0 rfl rfl 6 (by decide) (hts _ wd_752) (fun _ h9 => h9) rfl dc_Mo_take_107 ?_
            refine kb_if_eq hx hb dc_Mo_take_110 rfl (fun hc110 => ?_) (fun hc110 => ?_)
            · exact kw_vret hx hb hr hlocks hP hD hS dc_Mo_take_149 (rfl)
            · exact absurd hc110 (by decide)
          · refine lv_aload_n hx hb dc_Mo_take_54 rfl (lv_at hl 2 rfl) ?_
            refine va_get (ci := 10) (v := .int (kb_i false)) (C := rn_Mo) (T := fd_Mo) (N := 36) hx hb hts in_Mo hown hK hP 0 rfl rfl 6 (by decide) (hts _ wd_752) (fun _ h9 => h9) rfl dc_Mo_take_55 ?_
            refine kb_if_eq hx hb dc_Mo_take_58 rfl (fun hc58 => ?_) (fun hc58 => ?_)
            · refine lv_aload_n hx hb dc_Mo_take_106 rfl (lv_at hl 2 rfl) ?_
              refine va_get (ci := 10) (v := .int (kb_i false)) (C := rn_Mo) (T := fd_Mo) (N := 36) hx hb hts in_Mo hown hK hP 0 rfl rfl 6 (by decide) (hts _ wd_752) (fun _ h9 => h9) rfl dc_Mo_take_107 ?_
              refine kb_if_eq hx hb dc_Mo_take_110 rfl (fun hc110 => ?_) (fun hc110 => ?_)
              · exact kw_vret hx hb hr hlocks hP hD hS dc_Mo_take_149 (rfl)
              · exact absurd hc110 (by decide)
            · exact absurd hc58 (by decide)
        · exfalso; unfold pt_no at hno; rw [if_neg hc1, ← neg_z] at hno; exact hno.elim hc21 (fun q => hc26 (i_ltle q hv8))
