/-! the tries of a clause -/
theorem used_lt {fs rs im : Nat → Nat} : ∀ (k u lk : Nat), u < 2 ^ 33 → (∀ i, i < k → rs i ≤ 32) → pt_used fs rs im k u lk < 2 ^ 33 := by
  intro k
  induction k with
  | zero => intro u lk h _; exact h
  | succ k ih =>
    intro u lk h hr
    rw [pt_used]
    split
    · exact ih u lk h (fun i hi => hr i (by omega))
    · refine ih _ _ (Nat.or_lt_two_pow h (Nat.pow_lt_pow_right (by decide) ?_)) (fun i hi => hr i (by omega))
      have := hr k (by omega); omega
/-- an assignment that may be gone on with: room, and reasons and bits as they should be -/
def pt_aok (cn n t f : Nat) (rs im : Nat → Nat) : Prop := pt_cap n t f ∧ ∀ k, k < n → (1 ≤ rs k ∧ rs k ≤ cn) ∧ im k < 65536
theorem aok_n {cn n t f : Nat} {rs im : Nat → Nat} (h : pt_aok cn n t f rs im) : n ≤ 8 := by
  have := h.1.2.2; omega
theorem prop_ok {fs : Nat → Nat} {lv mk cn : Nat} (h16 : ∀ j, fs j < 65536) : ∀ (k n t f : Nat) (rs im : Nat → Nat), pt_aok cn n t f rs im →
    (pt_prop fs lv mk cn k n t f rs im).1 ≤ cn ∧ n ≤ (pt_prop fs lv mk cn k n t f rs im).2.1 ∧ pt_aok cn (pt_prop fs lv mk cn k n t f rs im).2.1 (pt_prop fs lv mk cn k n t f rs im).2.2.1 (pt_prop fs lv mk cn k n t f rs im).2.2.2.1 (pt_prop fs lv mk cn k n t f rs im).2.2.2.2.1 (pt_prop fs lv mk cn k n t f rs im).2.2.2.2.2 := by
  intro k
  induction k with
  | zero => intro n t f rs im h; exact ⟨Nat.zero_le _, Nat.le_refl _, h⟩
  | succ k ih =>
    intro n t f rs im h
    have hni := next_in fs lv mk cn t f
    rw [pt_prop]
    generalize pt_next fs lv mk cn t f = ce at hni ⊢
    by_cases h0 : ce = 0
    · rw [if_pos h0]; exact ⟨Nat.zero_le _, Nat.le_refl _, h⟩
    · obtain ⟨h1, h2, h3, h4⟩ := hni.resolve_left h0
      rw [if_neg h0]
      by_cases hy : nb_d (fs ce) f = 0
      · rw [if_pos hy]; exact ⟨h2, Nat.le_refl _, h⟩
      · rw [if_neg hy]
        obtain ⟨hn8, hy16, hcap2⟩ := cap_step h.1 (h16 ce) h4 hy
        obtain ⟨g1, g2, g3⟩ := ih (n + 1) (t ||| nb_d (fs ce) f) (f ||| nb_op (nb_d (fs ce) f)) (va_up rs n ce) (va_up im n (nb_d (fs ce) f)) ⟨hcap2, fun i hi => by
          by_cases hin : i = n
          · subst hin; rw [va_up_self, va_up_self]; exact ⟨⟨h1, h2⟩, hy16⟩
          · rw [va_up_ne _ _ hin, va_up_ne _ _ hin]; exact h.2 i (by omega)⟩
        exact ⟨g1, by omega, g3⟩
/-- the reasons so far, as hints and as a set -/
def pt_rl (rs : Nat → Nat) : Nat → List Int32
  | 0 => []
  | k + 1 => pt_rl rs k ++ [nI (rs k)]
def pt_ru (rs : Nat → Nat) : Nat → Nat
  | 0 => 0
  | k + 1 => pt_ru rs k ||| 2 ^ rs k
theorem ru_lt {rs : Nat → Nat} : ∀ k, (∀ i, i < k → rs i ≤ 32) → pt_ru rs k < 2 ^ 33 := by
  intro k
  induction k with
  | zero => intro _; show 0 < 2 ^ 33; decide
  | succ k ih =>
    intro h
    rw [pt_ru]
    refine Nat.or_lt_two_pow (ih (fun i hi => h i (by omega))) (Nat.pow_lt_pow_right (by decide) ?_)
    have := h k (by omega); omega
/-- the tries for the partners from p on: settled or not, the used ones, the hints, the assignment -/
def pt_sp (fs : Nat → Nat) (lv mk cn pv rc n0 : Nat) : Nat → Nat → Nat → List Int32 → Nat → Nat → Nat → (Nat → Nat) → (Nat → Nat) → Bool × Nat × List Int32 × Nat × Nat × Nat × (Nat → Nat) × (Nat → Nat)
  | 0, _, u, L, n, t, f, rs, im => (true, u, L, n, t, f, rs, im)
  | k + 1, p, u, L, n, t, f, rs, im =>
    if lv.testBit p = false ∨ fs p &&& pv = 0 then pt_sp fs lv mk cn pv rc n0 k (p + 1) u L n t f rs im
    else if ¬ nb_d (fs p) pv &&& rc = 0 then pt_sp fs lv mk cn pv rc n0 k (p + 1) (u ||| 2 ^ p) (L ++ [-nI p]) n t f rs im
    else
      let R := pt_prop fs lv mk cn 9 n0 (rc ||| nb_op (nb_d (fs p) pv)) (nb_op (rc ||| nb_op (nb_d (fs p) pv))) rs im
      if R.1 = 0 then (false, u ||| 2 ^ p, L ++ [-nI p], R.2)
      else pt_sp fs lv mk cn pv rc n0 k (p + 1) (u ||| 2 ^ p ||| pt_used fs R.2.2.2.2.1 R.2.2.2.2.2 R.2.1 (2 ^ R.1) (fs R.1)) (L ++ [-nI p] ++ (pt_exs R.2.2.2.2.1 (pt_used fs R.2.2.2.2.1 R.2.2.2.2.2 R.2.1 (2 ^ R.1) (fs R.1)) n0 (R.2.1 - n0) ++ [nI R.1])) R.2.1 R.2.2.1 R.2.2.2.1 R.2.2.2.2.1 R.2.2.2.2.2
theorem sp_len {fs : Nat → Nat} {lv mk cn pv rc n0 : Nat} : ∀ (k p u : Nat) (L : List Int32) (n t f : Nat) (rs im : Nat → Nat), L.length ≤ (pt_sp fs lv mk cn pv rc n0 k p u L n t f rs im).2.2.1.length := by
  intro k
  induction k with
  | zero => intro p u L n t f rs im; exact Nat.le_refl _
  | succ k ih =>
    intro p u L n t f rs im
    rw [pt_sp]
    split
    · exact ih _ _ _ _ _ _ _ _
    · split
      · exact Nat.le_trans (by simp) (ih _ _ _ _ _ _ _ _)
      · dsimp only
        split
        · simp
        · exact Nat.le_trans (by simp only [List.length_append]; omega) (ih _ _ _ _ _ _ _ _)
theorem sp_no {fs : Nat → Nat} {lv mk cn pv rc n0 p u : Nat} {L : List Int32} {n t f : Nat} {rs im : Nat → Nat} (h : p ≤ cn) (hp : lv.testBit p = false ∨ fs p &&& pv = 0) : pt_sp fs lv mk cn pv rc n0 (cn + 1 - p) p u L n t f rs im = pt_sp fs lv mk cn pv rc n0 (cn + 1 - (p + 1)) (p + 1) u L n t f rs im := by
  rw [show cn + 1 - p = (cn + 1 - (p + 1)) + 1 by omega, pt_sp, if_pos hp]
theorem sp_true {fs : Nat → Nat} {lv mk cn pv rc n0 p u : Nat} {L : List Int32} {n t f : Nat} {rs im : Nat → Nat} (h : p ≤ cn) (hp : ¬ (lv.testBit p = false ∨ fs p &&& pv = 0)) (ho : ¬ nb_d (fs p) pv &&& rc = 0) : pt_sp fs lv mk cn pv rc n0 (cn + 1 - p) p u L n t f rs im = pt_sp fs lv mk cn pv rc n0 (cn + 1 - (p + 1)) (p + 1) (u ||| 2 ^ p) (L ++ [-nI p]) n t f rs im := by
  rw [show cn + 1 - p = (cn + 1 - (p + 1)) + 1 by omega, pt_sp, if_neg hp, if_pos ho]
theorem sp_bad {fs : Nat → Nat} {lv mk cn pv rc n0 p u : Nat} {L : List Int32} {n t f : Nat} {rs im : Nat → Nat} (h : p ≤ cn) (hp : ¬ (lv.testBit p = false ∨ fs p &&& pv = 0)) (ho : nb_d (fs p) pv &&& rc = 0) (hR : (pt_prop fs lv mk cn 9 n0 (rc ||| nb_op (nb_d (fs p) pv)) (nb_op (rc ||| nb_op (nb_d (fs p) pv))) rs im).1 = 0) : pt_sp fs lv mk cn pv rc n0 (cn + 1 - p) p u L n t f rs im = (false, u ||| 2 ^ p, L ++ [-nI p], (pt_prop fs lv mk cn 9 n0 (rc ||| nb_op (nb_d (fs p) pv)) (nb_op (rc ||| nb_op (nb_d (fs p) pv))) rs im).2) := by
  rw [show cn + 1 - p = (cn + 1 - (p + 1)) + 1 by omega, pt_sp, if_neg hp, if_neg (fun q => q ho)]
  dsimp only
  rw [if_pos hR]
theorem sp_go {fs : Nat → Nat} {lv mk cn pv rc n0 p u : Nat} {L : List Int32} {n t f : Nat} {rs im : Nat → Nat} (h : p ≤ cn) (hp : ¬ (lv.testBit p = false ∨ fs p &&& pv = 0)) (ho : nb_d (fs p) pv &&& rc = 0) {R : Nat × Nat × Nat × Nat × (Nat → Nat) × (Nat → Nat)} (hRe : pt_prop fs lv mk cn 9 n0 (rc ||| nb_op (nb_d (fs p) pv)) (nb_op (rc ||| nb_op (nb_d (fs p) pv))) rs im = R) (hR : ¬ R.1 = 0) : pt_sp fs lv mk cn pv rc n0 (cn + 1 - p) p u L n t f rs im = pt_sp fs lv mk cn pv rc n0 (cn + 1 - (p + 1)) (p + 1) (u ||| 2 ^ p ||| pt_used fs R.2.2.2.2.1 R.2.2.2.2.2 R.2.1 (2 ^ R.1) (fs R.1)) (L ++ [-nI p] ++ (pt_exs R.2.2.2.2.1 (pt_used fs R.2.2.2.2.1 R.2.2.2.2.2 R.2.1 (2 ^ R.1) (fs R.1)) n0 (R.2.1 - n0) ++ [nI R.1])) R.2.1 R.2.2.1 R.2.2.2.1 R.2.2.2.2.1 R.2.2.2.2.2 := by
  subst hRe
  rw [show cn + 1 - p = (cn + 1 - (p + 1)) + 1 by omega, pt_sp, if_neg hp, if_neg (fun q => q ho)]
  dsimp only
  rw [if_neg hR]
theorem sp_en {fs : Nat → Nat} {lv mk cn pv rc n0 p u : Nat} {L : List Int32} {n t f : Nat} {rs im : Nat → Nat} (h : cn < p) : pt_sp fs lv mk cn pv rc n0 (cn + 1 - p) p u L n t f rs im = (true, u, L, n, t, f, rs, im) := by
  rw [show cn + 1 - p = 0 by omega, pt_sp]
theorem put_app {fr : Nat → Int32} {g : Nat} {L M : List Int32} : pt_put (pt_put fr g L) (g + L.length) M = pt_put fr g (L ++ M) := by
  funext j
  unfold pt_put
  rw [List.length_append]
  by_cases h : g + L.length ≤ j ∧ j < g + L.length + M.length
  · rw [if_pos h, if_pos (by omega), List.getD_eq_getElem?_getD, List.getD_eq_getElem?_getD, List.getElem?_append_right (by omega), show j - g - L.length = j - (g + L.length) by omega]
  · rw [if_neg h]
    by_cases h2 : g ≤ j ∧ j < g + L.length
    · rw [if_pos h2, if_pos (by omega), List.getD_eq_getElem?_getD, List.getD_eq_getElem?_getD, List.getElem?_append_left (by omega)]
    · rw [if_neg h2, if_neg (by omega)]
theorem cnt_app {fc : Nat → Nat} {c : Nat} {L M : List Int32} : va_up (va_up fc c (fc c + L.length)) c (va_up fc c (fc c + L.length) c + M.length) = va_up fc c (fc c + (L ++ M).length) := by
  rw [va_up_self, bx_uu, List.length_append, Nat.add_assoc]
theorem len_app {g : Nat} {L M : List Int32} : g + (L ++ M).length = g + L.length + M.length := by
  rw [List.length_append, Nat.add_assoc]
theorem len_s {g : Nat} {L : List Int32} {x : Int32} : g + (L ++ [x]).length = g + L.length + 1 := by
  rw [List.length_append]; rfl
theorem free_mono : ∀ (t x : Nat), pt_free (t ||| x) ≤ pt_free t := by
  intro t x
  unfold pt_free
  simp only [List.range, List.range.loop, List.map_cons, List.map_nil, List.sum_cons, List.sum_nil, Nat.testBit_or]
  have key : ∀ v, (if (t.testBit v || x.testBit v) = false ∧ (t.testBit (v + 8) || x.testBit (v + 8)) = false then 1 else 0) ≤ (if t.testBit v = false ∧ t.testBit (v + 8) = false then 1 else 0) := by
    intro v
    cases t.testBit v <;> cases t.testBit (v + 8) <;> cases x.testBit v <;> cases x.testBit (v + 8) <;> decide
  have h0 := key 0
  have h1 := key 1
  have h2 := key 2
  have h3 := key 3
  have h4 := key 4
  have h5 := key 5
  have h6 := key 6
  have h7 := key 7
  omega

theorem dc_Ck_settlesPartners_0 : decode bc_Ck_settlesPartners 0 = .ok (.aload_n 0, 1) := by decide +kernel
theorem dc_Ck_settlesPartners_1 : decode bc_Ck_settlesPartners 1 = .ok (.getfield 23, 3) := by decide +kernel
theorem dc_Ck_settlesPartners_4 : decode bc_Ck_settlesPartners 4 = .ok (.getfield 101, 3) := by decide +kernel
theorem dc_Ck_settlesPartners_7 : decode bc_Ck_settlesPartners 7 = .ok (.istore_n 2, 1) := by decide +kernel
theorem dc_Ck_settlesPartners_8 : decode bc_Ck_settlesPartners 8 = .ok (.aload_n 0, 1) := by decide +kernel
theorem dc_Ck_settlesPartners_9 : decode bc_Ck_settlesPartners 9 = .ok (.getfield 23, 3) := by decide +kernel
theorem dc_Ck_settlesPartners_12 : decode bc_Ck_settlesPartners 12 = .ok (.getfield 104, 3) := by decide +kernel
theorem dc_Ck_settlesPartners_15 : decode bc_Ck_settlesPartners 15 = .ok (.istore_n 3, 1) := by decide +kernel
theorem dc_Ck_settlesPartners_16 : decode bc_Ck_settlesPartners 16 = .ok (.lconst 0, 1) := by decide +kernel
theorem dc_Ck_settlesPartners_17 : decode bc_Ck_settlesPartners 17 = .ok (.lstore 4, 2) := by decide +kernel
theorem dc_Ck_settlesPartners_19 : decode bc_Ck_settlesPartners 19 = .ok (.iconst 0, 1) := by decide +kernel
theorem dc_Ck_settlesPartners_20 : decode bc_Ck_settlesPartners 20 = .ok (.istore 6, 2) := by decide +kernel
theorem dc_Ck_settlesPartners_22 : decode bc_Ck_settlesPartners 22 = .ok (.iload 6, 2) := by decide +kernel
theorem dc_Ck_settlesPartners_24 : decode bc_Ck_settlesPartners 24 = .ok (.iload_n 3, 1) := by decide +kernel
theorem dc_Ck_settlesPartners_25 : decode bc_Ck_settlesPartners 25 = .ok (.if_icmp .ge (45), 3) := by decide +kernel
theorem dc_Ck_settlesPartners_28 : decode bc_Ck_settlesPartners 28 = .ok (.aload_n 0, 1) := by decide +kernel
theorem dc_Ck_settlesPartners_29 : decode bc_Ck_settlesPartners 29 = .ok (.getfield 19, 3) := by decide +kernel
theorem dc_Ck_settlesPartners_32 : decode bc_Ck_settlesPartners 32 = .ok (.iload_n 1, 1) := by decide +kernel
theorem dc_Ck_settlesPartners_33 : decode bc_Ck_settlesPartners 33 = .ok (.aload_n 0, 1) := by decide +kernel
theorem dc_Ck_settlesPartners_34 : decode bc_Ck_settlesPartners 34 = .ok (.getfield 23, 3) := by decide +kernel
theorem dc_Ck_settlesPartners_37 : decode bc_Ck_settlesPartners 37 = .ok (.getfield 105, 3) := by decide +kernel
theorem dc_Ck_settlesPartners_40 : decode bc_Ck_settlesPartners 40 = .ok (.iload 6, 2) := by decide +kernel
theorem dc_Ck_settlesPartners_42 : decode bc_Ck_settlesPartners 42 = .ok (.iaload, 1) := by decide +kernel
theorem dc_Ck_settlesPartners_43 : decode bc_Ck_settlesPartners 43 = .ok (.invokevirtual 108, 3) := by decide +kernel
theorem dc_Ck_settlesPartners_46 : decode bc_Ck_settlesPartners 46 = .ok (.lload 4, 2) := by decide +kernel
theorem dc_Ck_settlesPartners_48 : decode bc_Ck_settlesPartners 48 = .ok (.aload_n 0, 1) := by decide +kernel
theorem dc_Ck_settlesPartners_49 : decode bc_Ck_settlesPartners 49 = .ok (.getfield 23, 3) := by decide +kernel
theorem dc_Ck_settlesPartners_52 : decode bc_Ck_settlesPartners 52 = .ok (.getfield 105, 3) := by decide +kernel
theorem dc_Ck_settlesPartners_55 : decode bc_Ck_settlesPartners 55 = .ok (.iload 6, 2) := by decide +kernel
theorem dc_Ck_settlesPartners_57 : decode bc_Ck_settlesPartners 57 = .ok (.iaload, 1) := by decide +kernel
theorem dc_Ck_settlesPartners_58 : decode bc_Ck_settlesPartners 58 = .ok (.invokestatic 43, 3) := by decide +kernel
theorem dc_Ck_settlesPartners_61 : decode bc_Ck_settlesPartners 61 = .ok (.lor, 1) := by decide +kernel
theorem dc_Ck_settlesPartners_62 : decode bc_Ck_settlesPartners 62 = .ok (.lstore 4, 2) := by decide +kernel
theorem dc_Ck_settlesPartners_64 : decode bc_Ck_settlesPartners 64 = .ok (.iinc 6 (1), 3) := by decide +kernel
theorem dc_Ck_settlesPartners_67 : decode bc_Ck_settlesPartners 67 = .ok (.goto (-45), 3) := by decide +kernel
theorem dc_Ck_settlesPartners_70 : decode bc_Ck_settlesPartners 70 = .ok (.aload_n 0, 1) := by decide +kernel
theorem dc_Ck_settlesPartners_71 : decode bc_Ck_settlesPartners 71 = .ok (.getfield 9, 3) := by decide +kernel
theorem dc_Ck_settlesPartners_74 : decode bc_Ck_settlesPartners 74 = .ok (.iload_n 1, 1) := by decide +kernel
theorem dc_Ck_settlesPartners_75 : decode bc_Ck_settlesPartners 75 = .ok (.iconst 0, 1) := by decide +kernel
theorem dc_Ck_settlesPartners_76 : decode bc_Ck_settlesPartners 76 = .ok (.invokevirtual 111, 3) := by decide +kernel
theorem dc_Ck_settlesPartners_79 : decode bc_Ck_settlesPartners 79 = .ok (.ineg, 1) := by decide +kernel
theorem dc_Ck_settlesPartners_80 : decode bc_Ck_settlesPartners 80 = .ok (.invokestatic 115, 3) := by decide +kernel
theorem dc_Ck_settlesPartners_83 : decode bc_Ck_settlesPartners 83 = .ok (.istore 6, 2) := by decide +kernel
theorem dc_Ck_settlesPartners_85 : decode bc_Ck_settlesPartners 85 = .ok (.iconst 1, 1) := by decide +kernel
theorem dc_Ck_settlesPartners_86 : decode bc_Ck_settlesPartners 86 = .ok (.istore 7, 2) := by decide +kernel
theorem dc_Ck_settlesPartners_88 : decode bc_Ck_settlesPartners 88 = .ok (.iload 7, 2) := by decide +kernel
theorem dc_Ck_settlesPartners_90 : decode bc_Ck_settlesPartners 90 = .ok (.aload_n 0, 1) := by decide +kernel
theorem dc_Ck_settlesPartners_91 : decode bc_Ck_settlesPartners 91 = .ok (.getfield 9, 3) := by decide +kernel
theorem dc_Ck_settlesPartners_94 : decode bc_Ck_settlesPartners 94 = .ok (.getfield 37, 3) := by decide +kernel
theorem dc_Ck_settlesPartners_97 : decode bc_Ck_settlesPartners 97 = .ok (.if_icmp .gt (129), 3) := by decide +kernel
theorem dc_Ck_settlesPartners_100 : decode bc_Ck_settlesPartners 100 = .ok (.aload_n 0, 1) := by decide +kernel
theorem dc_Ck_settlesPartners_101 : decode bc_Ck_settlesPartners 101 = .ok (.getfield 33, 3) := by decide +kernel
theorem dc_Ck_settlesPartners_104 : decode bc_Ck_settlesPartners 104 = .ok (.iload 7, 2) := by decide +kernel
theorem dc_Ck_settlesPartners_106 : decode bc_Ck_settlesPartners 106 = .ok (.invokestatic 62, 3) := by decide +kernel
theorem dc_Ck_settlesPartners_109 : decode bc_Ck_settlesPartners 109 = .ok (.ifCond .eq (111), 3) := by decide +kernel
theorem dc_Ck_settlesPartners_112 : decode bc_Ck_settlesPartners 112 = .ok (.aload_n 0, 1) := by decide +kernel
theorem dc_Ck_settlesPartners_113 : decode bc_Ck_settlesPartners 113 = .ok (.getfield 9, 3) := by decide +kernel
theorem dc_Ck_settlesPartners_116 : decode bc_Ck_settlesPartners 116 = .ok (.getfield 74, 3) := by decide +kernel
theorem dc_Ck_settlesPartners_119 : decode bc_Ck_settlesPartners 119 = .ok (.iload 7, 2) := by decide +kernel
theorem dc_Ck_settlesPartners_121 : decode bc_Ck_settlesPartners 121 = .ok (.iaload, 1) := by decide +kernel
theorem dc_Ck_settlesPartners_122 : decode bc_Ck_settlesPartners 122 = .ok (.iload 6, 2) := by decide +kernel
theorem dc_Ck_settlesPartners_124 : decode bc_Ck_settlesPartners 124 = .ok (.iand, 1) := by decide +kernel
theorem dc_Ck_settlesPartners_125 : decode bc_Ck_settlesPartners 125 = .ok (.ifCond .ne (6), 3) := by decide +kernel
theorem dc_Ck_settlesPartners_128 : decode bc_Ck_settlesPartners 128 = .ok (.goto (92), 3) := by decide +kernel
theorem dc_Ck_settlesPartners_131 : decode bc_Ck_settlesPartners 131 = .ok (.aload_n 0, 1) := by decide +kernel
theorem dc_Ck_settlesPartners_132 : decode bc_Ck_settlesPartners 132 = .ok (.getfield 19, 3) := by decide +kernel
theorem dc_Ck_settlesPartners_135 : decode bc_Ck_settlesPartners 135 = .ok (.iload_n 1, 1) := by decide +kernel
theorem dc_Ck_settlesPartners_136 : decode bc_Ck_settlesPartners 136 = .ok (.iload 7, 2) := by decide +kernel
theorem dc_Ck_settlesPartners_138 : decode bc_Ck_settlesPartners 138 = .ok (.ineg, 1) := by decide +kernel
theorem dc_Ck_settlesPartners_139 : decode bc_Ck_settlesPartners 139 = .ok (.invokevirtual 108, 3) := by decide +kernel
theorem dc_Ck_settlesPartners_142 : decode bc_Ck_settlesPartners 142 = .ok (.lload 4, 2) := by decide +kernel
theorem dc_Ck_settlesPartners_144 : decode bc_Ck_settlesPartners 144 = .ok (.iload 7, 2) := by decide +kernel
theorem dc_Ck_settlesPartners_146 : decode bc_Ck_settlesPartners 146 = .ok (.invokestatic 43, 3) := by decide +kernel
theorem dc_Ck_settlesPartners_149 : decode bc_Ck_settlesPartners 149 = .ok (.lor, 1) := by decide +kernel
theorem dc_Ck_settlesPartners_150 : decode bc_Ck_settlesPartners 150 = .ok (.lstore 4, 2) := by decide +kernel
theorem dc_Ck_settlesPartners_152 : decode bc_Ck_settlesPartners 152 = .ok (.aload_n 0, 1) := by decide +kernel
theorem dc_Ck_settlesPartners_153 : decode bc_Ck_settlesPartners 153 = .ok (.getfield 9, 3) := by decide +kernel
theorem dc_Ck_settlesPartners_156 : decode bc_Ck_settlesPartners 156 = .ok (.getfield 74, 3) := by decide +kernel
theorem dc_Ck_settlesPartners_159 : decode bc_Ck_settlesPartners 159 = .ok (.iload 7, 2) := by decide +kernel
theorem dc_Ck_settlesPartners_161 : decode bc_Ck_settlesPartners 161 = .ok (.iaload, 1) := by decide +kernel
theorem dc_Ck_settlesPartners_162 : decode bc_Ck_settlesPartners 162 = .ok (.iload 6, 2) := by decide +kernel
theorem dc_Ck_settlesPartners_164 : decode bc_Ck_settlesPartners 164 = .ok (.iconst (-1), 1) := by decide +kernel
theorem dc_Ck_settlesPartners_165 : decode bc_Ck_settlesPartners 165 = .ok (.ixor, 1) := by decide +kernel
theorem dc_Ck_settlesPartners_166 : decode bc_Ck_settlesPartners 166 = .ok (.iand, 1) := by decide +kernel
theorem dc_Ck_settlesPartners_167 : decode bc_Ck_settlesPartners 167 = .ok (.istore 8, 2) := by decide +kernel
theorem dc_Ck_settlesPartners_169 : decode bc_Ck_settlesPartners 169 = .ok (.iload 8, 2) := by decide +kernel
theorem dc_Ck_settlesPartners_171 : decode bc_Ck_settlesPartners 171 = .ok (.iload_n 2, 1) := by decide +kernel
theorem dc_Ck_settlesPartners_172 : decode bc_Ck_settlesPartners 172 = .ok (.iand, 1) := by decide +kernel
theorem dc_Ck_settlesPartners_173 : decode bc_Ck_settlesPartners 173 = .ok (.ifCond .eq (6), 3) := by decide +kernel
theorem dc_Ck_settlesPartners_176 : decode bc_Ck_settlesPartners 176 = .ok (.goto (44), 3) := by decide +kernel
theorem dc_Ck_settlesPartners_179 : decode bc_Ck_settlesPartners 179 = .ok (.aload_n 0, 1) := by decide +kernel
theorem dc_Ck_settlesPartners_180 : decode bc_Ck_settlesPartners 180 = .ok (.getfield 23, 3) := by decide +kernel
theorem dc_Ck_settlesPartners_183 : decode bc_Ck_settlesPartners 183 = .ok (.iload_n 2, 1) := by decide +kernel
theorem dc_Ck_settlesPartners_184 : decode bc_Ck_settlesPartners 184 = .ok (.iload 8, 2) := by decide +kernel
theorem dc_Ck_settlesPartners_186 : decode bc_Ck_settlesPartners 186 = .ok (.invokestatic 77, 3) := by decide +kernel
theorem dc_Ck_settlesPartners_189 : decode bc_Ck_settlesPartners 189 = .ok (.ior, 1) := by decide +kernel
theorem dc_Ck_settlesPartners_190 : decode bc_Ck_settlesPartners 190 = .ok (.iload_n 3, 1) := by decide +kernel
theorem dc_Ck_settlesPartners_191 : decode bc_Ck_settlesPartners 191 = .ok (.invokevirtual 81, 3) := by decide +kernel
theorem dc_Ck_settlesPartners_194 : decode bc_Ck_settlesPartners 194 = .ok (.aload_n 0, 1) := by decide +kernel
theorem dc_Ck_settlesPartners_195 : decode bc_Ck_settlesPartners 195 = .ok (.invokevirtual 87, 3) := by decide +kernel
theorem dc_Ck_settlesPartners_198 : decode bc_Ck_settlesPartners 198 = .ok (.istore 9, 2) := by decide +kernel
theorem dc_Ck_settlesPartners_200 : decode bc_Ck_settlesPartners 200 = .ok (.iload 9, 2) := by decide +kernel
theorem dc_Ck_settlesPartners_202 : decode bc_Ck_settlesPartners 202 = .ok (.ifCond .ne (5), 3) := by decide +kernel
theorem dc_Ck_settlesPartners_205 : decode bc_Ck_settlesPartners 205 = .ok (.iconst 0, 1) := by decide +kernel
theorem dc_Ck_settlesPartners_206 : decode bc_Ck_settlesPartners 206 = .ok (.ireturn, 1) := by decide +kernel
theorem dc_Ck_settlesPartners_207 : decode bc_Ck_settlesPartners 207 = .ok (.lload 4, 2) := by decide +kernel
theorem dc_Ck_settlesPartners_209 : decode bc_Ck_settlesPartners 209 = .ok (.aload_n 0, 1) := by decide +kernel
theorem dc_Ck_settlesPartners_210 : decode bc_Ck_settlesPartners 210 = .ok (.iload_n 1, 1) := by decide +kernel
theorem dc_Ck_settlesPartners_211 : decode bc_Ck_settlesPartners 211 = .ok (.iload_n 3, 1) := by decide +kernel
theorem dc_Ck_settlesPartners_212 : decode bc_Ck_settlesPartners 212 = .ok (.iload 9, 2) := by decide +kernel
theorem dc_Ck_settlesPartners_214 : decode bc_Ck_settlesPartners 214 = .ok (.invokevirtual 91, 3) := by decide +kernel
theorem dc_Ck_settlesPartners_217 : decode bc_Ck_settlesPartners 217 = .ok (.lor, 1) := by decide +kernel
theorem dc_Ck_settlesPartners_218 : decode bc_Ck_settlesPartners 218 = .ok (.lstore 4, 2) := by decide +kernel
theorem dc_Ck_settlesPartners_220 : decode bc_Ck_settlesPartners 220 = .ok (.iinc 7 (1), 3) := by decide +kernel
theorem dc_Ck_settlesPartners_223 : decode bc_Ck_settlesPartners 223 = .ok (.goto (-135), 3) := by decide +kernel
theorem dc_Ck_settlesPartners_226 : decode bc_Ck_settlesPartners 226 = .ok (.aload_n 0, 1) := by decide +kernel
theorem dc_Ck_settlesPartners_227 : decode bc_Ck_settlesPartners 227 = .ok (.getfield 19, 3) := by decide +kernel
theorem dc_Ck_settlesPartners_230 : decode bc_Ck_settlesPartners 230 = .ok (.dup, 1) := by decide +kernel
theorem dc_Ck_settlesPartners_231 : decode bc_Ck_settlesPartners 231 = .ok (.getfield 46, 3) := by decide +kernel
theorem dc_Ck_settlesPartners_234 : decode bc_Ck_settlesPartners 234 = .ok (.lload 4, 2) := by decide +kernel
theorem dc_Ck_settlesPartners_236 : decode bc_Ck_settlesPartners 236 = .ok (.lor, 1) := by decide +kernel
theorem dc_Ck_settlesPartners_237 : decode bc_Ck_settlesPartners 237 = .ok (.putfield 46, 3) := by decide +kernel
theorem dc_Ck_settlesPartners_240 : decode bc_Ck_settlesPartners 240 = .ok (.iconst 1, 1) := by decide +kernel
theorem dc_Ck_settlesPartners_241 : decode bc_Ck_settlesPartners 241 = .ok (.ireturn, 1) := by decide +kernel
theorem rl_len (rs : Nat → Nat) : ∀ k, (pt_rl rs k).length = k := by
  intro k
  induction k with
  | zero => rfl
  | succ k ih => rw [pt_rl, List.length_append, ih]; rfl
theorem sp_len1 {fs : Nat → Nat} {lv mk cn pv rc n0 p u : Nat} {L : List Int32} {n t f : Nat} {rs im : Nat → Nat} (h : p ≤ cn) (hp : ¬ (lv.testBit p = false ∨ fs p &&& pv = 0)) : (L ++ [-nI p]).length ≤ (pt_sp fs lv mk cn pv rc n0 (cn + 1 - p) p u L n t f rs im).2.2.1.length := by
  by_cases ho : nb_d (fs p) pv &&& rc = 0
  · by_cases hR : (pt_prop fs lv mk cn 9 n0 (rc ||| nb_op (nb_d (fs p) pv)) (nb_op (rc ||| nb_op (nb_d (fs p) pv))) rs im).1 = 0
    · rw [sp_bad h hp ho hR]; exact Nat.le_refl _
    · rw [sp_go h hp ho rfl hR]
      exact Nat.le_trans (by simp only [List.length_append]; omega) (sp_len _ _ _ _ _ _ _ _ _)
  · rw [sp_true h hp ho]; exact sp_len _ _ _ _ _ _ _ _ _

set_option maxHeartbeats 4000000 in
set_option maxRecDepth 100000 in
theorem ct_Ck_settlesPartners (l : Launch) (D : va_G) (cI cZ : ClassId) (sz : Nat) (o : Nat) (xc : Nat) (xs : Nat) (xt : Nat) (xa : Nat) (lv : Nat) (ca : Nat) (cb : Nat) (cd : Nat) (cn : Nat) (fz : Nat → Nat) (fs : Nat → Nat) (fl : Nat → Int32) (aa : Nat) (ab : Nat) (n : Nat) (t : Nat) (f : Nat) (rs : Nat → Nat) (im : Nat → Nat) (ta : Nat) (tb : Nat) (td : Nat) (g : Nat) (mk : Nat) (ckd : Bool) (ft : Nat → Nat) (fc : Nat → Nat) (fr : Nat → Int32) (j : Nat) (qb : Nat) (pb : Nat) (hcn : cn ≤ 32) (h16 : ∀ j, fs j < 65536) (hlv : lv < 2 ^ 62) (hz : ∀ i, 1 ≤ i → i ≤ cn → fz i ≤ 8) (hok : pt_aok cn n t f rs im) (hj1 : 1 ≤ j) (hj2 : j ≤ cn) (hz1 : 1 ≤ fz j) (hqb : qb < 16) (hlit : fl (j * 8) = pt_lit qb) (hpb : (qb + 8) % 16 = pb) (hfit : g + (pt_sp fs lv mk cn (2 ^ pb) t n cn 1 (pt_ru rs n) (pt_rl rs n) n t f rs im).2.2.1.length ≤ 2048) : Met l yn_Ck_settlesPartners (Cond.code yn_Ck_settlesPartners bc_Ck_settlesPartners 10 (some .boolean) :: kx_all) ({ frames := 3, cells := 0, slots := 0, locals := 72 } : Room) (kp [.ref o, .int (nI j)] D cI cZ [ck_c o xc xs xt xa lv, cl_c xc ca cb cd cn, ar_n cI ca 33 fz, ar_n cI cb 33 fs, ar_i cI cd (33 * 8) fl, as_c xa aa ab n t f, ar_n cI aa 8 rs, ar_n cI ab 8 im, tr_c xt ta tb td g mk ckd, ar_n cI ta 33 ft, ar_n cI tb 33 fc, ar_i cI td 2048 fr] sz) (kw_q (some (.int (kb_i ((pt_sp fs lv mk cn (2 ^ pb) t n cn 1 (pt_ru rs n) (pt_rl rs n) n t f rs im).1)))) D kc_l [ck_c o xc xs xt xa lv, cl_c xc ca cb cd cn, ar_n cI ca 33 fz, ar_n cI cb 33 fs, ar_i cI cd (33 * 8) fl, as_c xa aa ab ((pt_sp fs lv mk cn (2 ^ pb) t n cn 1 (pt_ru rs n) (pt_rl rs n) n t f rs im).2.2.2.1) ((pt_sp fs lv mk cn (2 ^ pb) t n cn 1 (pt_ru rs n) (pt_rl rs n) n t f rs im).2.2.2.2.1) ((pt_sp fs lv mk cn (2 ^ pb) t n cn 1 (pt_ru rs n) (pt_rl rs n) n t f rs im).2.2.2.2.2.1), ar_n cI aa 8 ((pt_sp fs lv mk cn (2 ^ pb) t n cn 1 (pt_ru rs n) (pt_rl rs n) n t f rs im).2.2.2.2.2.2.1), ar_n cI ab 8 ((pt_sp fs lv mk cn (2 ^ pb) t n cn 1 (pt_ru rs n) (pt_rl rs n) n t f rs im).2.2.2.2.2.2.2), tr_c xt ta tb td (g + (pt_sp fs lv mk cn (2 ^ pb) t n cn 1 (pt_ru rs n) (pt_rl rs n) n t f rs im).2.2.1.length) (if (pt_sp fs lv mk cn (2 ^ pb) t n cn 1 (pt_ru rs n) (pt_rl rs n) n t f rs im).1 = true then mk ||| (pt_sp fs lv mk cn (2 ^ pb) t n cn 1 (pt_ru rs n) (pt_rl rs n) n t f rs im).2.1 else mk) ckd, ar_n cI ta 33 ft, ar_n cI tb 33 (va_up fc j (fc j + (pt_sp fs lv mk cn (2 ^ pb) t n cn 1 (pt_ru rs n) (pt_rl rs n) n t f rs im).2.2.1.length)), ar_i cI td 2048 (pt_put fr g (pt_sp fs lv mk cn (2 ^ pb) t n cn 1 (pt_ru rs n) (pt_rl rs n) n t f rs im).2.2.1)] (va_A [ck_c o xc xs xt xa lv, cl_c xc ca cb cd cn, ar_n cI ca 33 fz, ar_n cI cb 33 fs, ar_i cI cd (33 * 8) fl, as_c xa aa ab n t f, ar_n cI aa 8 rs, ar_n cI ab 8 im, tr_c xt ta tb td g mk ckd, ar_n cI ta 33 ft, ar_n cI tb 33 fc, ar_i cI td 2048 fr] sz)) 0 0 (va_A [ck_c o xc xs xt xa lv, cl_c xc ca cb cd cn, ar_n cI ca 33 fz, ar_n cI cb 33 fs, ar_i cI cd (33 * 8) fl, as_c xa aa ab n t f, ar_n cI aa 8 rs, ar_n cI ab 8 im, tr_c xt ta tb td g mk ckd, ar_n cI ta 33 ft, ar_n cI tb 33 fc, ar_i cI td 2048 fr] sz) := by
  refine kx_metW (by decide) (Nat.le_of_ble_eq_true rfl) ?_
  intro p e s m below meth c ls A hx hb hr hml hts hown hlocks hin hA hP hK hD hN hl hS
  have hown : s.vm.findClass rn_Ck = some m.cls := hown
  have hl : lv_has ls 10 [(0, .ref o), (1, .int (nI j))] := hl
  have hn8 := aok_n hok
  have hfit0 : g + n ≤ 2048 := by
    have h9 := sp_len (fs := fs) (lv := lv) (mk := mk) (cn := cn) (pv := 2 ^ pb) (rc := t) (n0 := n) cn 1 (pt_ru rs n) (pt_rl rs n) n t f rs im
    rw [rl_len] at h9
    omega
  refine lv_aload_n hx hb dc_Ck_settlesPartners_0 rfl (lv_at hl 0 rfl) ?_
  refine va_get (ci := 7) (v := .ref xa) (C := rn_Ck) (T := fd_Ck) (N := 5) hx hb hts in_Ck hown hK hP 0 rfl rfl 3 (by decide) (hts _ wd_579) (fun _ h9 => h9) rfl dc_Ck_settlesPartners_1 ?_
  refine va_getN (ci := 6) (v := .int (nI t)) (C := rn_As) (T := fd_As) (N := 5) hx hb hts in_As hown hK hP 5 rfl rfl 3 (by decide) (nf_170 hN) (fun _ h9 => h9) rfl dc_Ck_settlesPartners_4 ?_
  refine lv_istore_n (lv' := [(2, .int (nI t)), (0, .ref o), (1, .int (nI j))]) hx hb dc_Ck_settlesPartners_7 rfl hl (by decide) rfl (fun ls hl => ?_)
  refine lv_aload_n hx hb dc_Ck_settlesPartners_8 rfl (lv_at hl 1 rfl) ?_
  refine va_get (ci := 7) (v := .ref xa) (C := rn_Ck) (T := fd_Ck) (N := 5) hx hb hts in_Ck hown hK hP 0 rfl rfl 3 (by decide) (hts _ wd_579) (fun _ h9 => h9) rfl dc_Ck_settlesPartners_9 ?_
  refine va_getN (ci := 6) (v := .int (nI n)) (C := rn_As) (T := fd_As) (N := 5) hx hb hts in_As hown hK hP 5 rfl rfl 2 (by decide) (nf_168 hN) (fun _ h9 => h9) rfl dc_Ck_settlesPartners_12 ?_
  refine lv_istore_n (lv' := [(3, .int (nI n)), (2, .int (nI t)), (0, .ref o), (1, .int (nI j))]) hx hb dc_Ck_settlesPartners_15 rfl hl (by decide) rfl (fun ls hl => ?_)
  refine lv_lconst (v := lN 0) hx hb dc_Ck_settlesPartners_16 (by decide +kernel) ?_
  refine lv_lstore (lv' := [(4, .long (lN 0)), (3, .int (nI n)), (2, .int (nI t)), (0, .ref o), (1, .int (nI j))]) hx hb dc_Ck_settlesPartners_17 hl (by decide) rfl (fun ls hl => ?_)
  refine lv_iconst (v := nI 0) hx hb dc_Ck_settlesPartners_19 (by decide +kernel) ?_
  refine lv_istore (lv' := [(6, .int (nI 0)), (4, .long (lN 0)), (3, .int (nI n)), (2, .int (nI t)), (0, .ref o), (1, .int (nI j))]) hx hb dc_Ck_settlesPartners_20 hl (by decide) rfl (fun ls hl => ?_)
  have hP : va_P D kc_l [ck_c o xc xs xt xa lv, cl_c xc ca cb cd cn, ar_n cI ca 33 fz, ar_n cI cb 33 fs, ar_i cI cd (33 * 8) fl, as_c xa aa ab n t f, ar_n cI aa 8 rs, ar_n cI ab 8 im, tr_c xt ta tb td (g + (pt_rl rs 0).length) mk ckd, ar_n cI ta 33 ft, ar_n cI tb 33 (va_up fc j (fc j + (pt_rl rs 0).length)), ar_i cI td 2048 (pt_put fr g (pt_rl rs 0))] s.heap := by rw [show pt_rl rs 0 = [] from rfl, put_0, cnt_0]; exact hP
  have hD : va_D A [ck_c o xc xs xt xa lv, cl_c xc ca cb cd cn, ar_n cI ca 33 fz, ar_n cI cb 33 fs, ar_i cI cd (33 * 8) fl, as_c xa aa ab n t f, ar_n cI aa 8 rs, ar_n cI ab 8 im, tr_c xt ta tb td (g + (pt_rl rs 0).length) mk ckd, ar_n cI ta 33 ft, ar_n cI tb 33 (va_up fc j (fc j + (pt_rl rs 0).length)), ar_i cI td 2048 (pt_put fr g (pt_rl rs 0))] := by rw [show pt_rl rs 0 = [] from rfl, put_0, cnt_0]; exact hD
  have lp_22 : ∀ (K : Nat) (i : Nat) (H : Heap) (locs : List Loc) (ls : Array Slot), n - i < K → va_P D kc_l [ck_c o xc xs xt xa lv, cl_c xc ca cb cd cn, ar_n cI ca 33 fz, ar_n cI cb 33 fs, ar_i cI cd (33 * 8) fl, as_c xa aa ab n t f, ar_n cI aa 8 rs, ar_n cI ab 8 im, tr_c xt ta tb td (g + (pt_rl rs i).length) mk ckd, ar_n cI ta 33 ft, ar_n cI tb 33 (va_up fc j (fc j + (pt_rl rs i).length)), ar_i cI td 2048 (pt_put fr g (pt_rl rs i))] H → va_D A [ck_c o xc xs xt xa lv, cl_c xc ca cb cd cn, ar_n cI ca 33 fz, ar_n cI cb 33 fs, ar_i cI cd (33 * 8) fl, as_c xa aa ab n t f, ar_n cI aa 8 rs, ar_n cI ab 8 im, tr_c xt ta tb td (g + (pt_rl rs i).length) mk ckd, ar_n cI ta 33 ft, ar_n cI tb 33 (va_up fc j (fc j + (pt_rl rs i).length)), ar_i cI td 2048 (pt_put fr g (pt_rl rs i))] → va_S A s.heap H locs → lv_has ls 10 [(6, .int (nI i)), (4, .long (lN (pt_ru rs i))), (3, .int (nI n)), (2, .int (nI t)), (0, .ref o), (1, .int (nI j))] → (i ≤ n) → W p l e ({ frames := 3, cells := 0, slots := 0, locals := 72 } : Room) s m ([.ref o, .int (nI j)] : List Value).toArray below meth c H locs 0 0 (MQ below (kw_q (some (.int (kb_i ((pt_sp fs lv mk cn (2 ^ pb) t n cn 1 (pt_ru rs n) (pt_rl rs n) n t f rs im).1)))) D kc_l [ck_c o xc xs xt xa lv, cl_c xc ca cb cd cn, ar_n cI ca 33 fz, ar_n cI cb 33 fs, ar_i cI cd (33 * 8) fl, as_c xa aa ab ((pt_sp fs lv mk cn (2 ^ pb) t n cn 1 (pt_ru rs n) (pt_rl rs n) n t f rs im).2.2.2.1) ((pt_sp fs lv mk cn (2 ^ pb) t n cn 1 (pt_ru rs n) (pt_rl rs n) n t f rs im).2.2.2.2.1) ((pt_sp fs lv mk cn (2 ^ pb) t n cn 1 (pt_ru rs n) (pt_rl rs n) n t f rs im).2.2.2.2.2.1), ar_n cI aa 8 ((pt_sp fs lv mk cn (2 ^ pb) t n cn 1 (pt_ru rs n) (pt_rl rs n) n t f rs im).2.2.2.2.2.2.1), ar_n cI ab 8 ((pt_sp fs lv mk cn (2 ^ pb) t n cn 1 (pt_ru rs n) (pt_rl rs n) n t f rs im).2.2.2.2.2.2.2), tr_c xt ta tb td (g + (pt_sp fs lv mk cn (2 ^ pb) t n cn 1 (pt_ru rs n) (pt_rl rs n) n t f rs im).2.2.1.length) (if (pt_sp fs lv mk cn (2 ^ pb) t n cn 1 (pt_ru rs n) (pt_rl rs n) n t f rs im).1 = true then mk ||| (pt_sp fs lv mk cn (2 ^ pb) t n cn 1 (pt_ru rs n) (pt_rl rs n) n t f rs im).2.1 else mk) ckd, ar_n cI ta 33 ft, ar_n cI tb 33 (va_up fc j (fc j + (pt_sp fs lv mk cn (2 ^ pb) t n cn 1 (pt_ru rs n) (pt_rl rs n) n t f rs im).2.2.1.length)), ar_i cI td 2048 (pt_put fr g (pt_sp fs lv mk cn (2 ^ pb) t n cn 1 (pt_ru rs n) (pt_rl rs n) n t f rs im).2.2.1)] A) ([.ref o, .int (nI j)] : List Value).toArray s 0 0 A) (F0 m 22 ls []) := by
    intro K
    induction K with
    | zero =>
      intro i H locs ls hk
      exact absurd hk (Nat.not_lt_zero _)
    | succ K ih =>
      intro i H locs ls hk hP hD hS hl h2
      refine lv_iload hx hb dc_Ck_settlesPartners_22 (lv_at hl 0 rfl) ?_
      refine lv_iload_n hx hb dc_Ck_settlesPartners_24 rfl (lv_at hl 2 rfl) ?_
      refine kn_icmp_ge hx hb (by omega) (by omega) dc_Ck_settlesPartners_25 rfl (fun hc25 => ?_) (fun hc25 => ?_)
      · have hin9 : i = n := by omega
        rw [hin9] at hl hP hD
        refine lv_aload_n hx hb dc_Ck_settlesPartners_70 rfl (lv_at hl 4 rfl) ?_
        refine va_get (ci := 7) (v := .ref xc) (C := rn_Ck) (T := fd_Ck) (N := 5) hx hb hts in_Ck hown hK hP 0 rfl rfl 0 (by decide) (hts _ wd_576) (fun _ h9 => h9) rfl dc_Ck_settlesPartners_71 ?_
        refine lv_iload_n hx hb dc_Ck_settlesPartners_74 rfl (lv_at hl 5 rfl) ?_
        refine lv_iconst (v := nI 0) hx hb dc_Ck_settlesPartners_75 (by decide +kernel) ?_
        refine kr_call1 (va_runV (As := [.int (nI j), .int (nI 0)]) (rest := []) ⟨hx, hb, hml, hown, hts⟩ (ct_Cl_literalAt l D cI cZ _ xc ca cb cd 33 cn fz fs fl j 0 (by omega) (by omega) (hz) (by omega) (by omega)) (cwV 2 hts (kx_gV wd_653 wd_248 wd_249 wd_4 wd_250) rfl rfl rfl ⟨rfl, yd_Cl_literalAt⟩ ⟨Nat.le_of_ble_eq_true rfl, Nat.le_of_ble_eq_true rfl⟩) (kp_V (q0 := 1) (ci := 2) hP hD hK hN [1, 2, 3, 4] rfl rfl rfl rfl rfl) rfl rfl hl.1 rfl (lv_room (Nat.le_of_ble_eq_true rfl)) dc_Ck_settlesPartners_76 ⟨Nat.le_of_ble_eq_true rfl, Nat.le_of_ble_eq_true rfl⟩) ?_
        refine kn_top (y := pt_lit qb) ((if_pos ⟨⟨by omega, by omega⟩, by omega⟩).trans (by rw [Nat.add_zero]; exact hlit)) ?_
        refine lv_ineg hx hb dc_Ck_settlesPartners_79 ?_
        refine kn_top (y := pt_lit pb) ((pt_lit_op qb hqb).trans (by rw [hpb])) ?_
        refine kr_call1 (va_runSN (As := [.int (pt_lit pb)]) (rest := []) ⟨hx, hb, hml, hown, hts⟩ (ct_Pt_only l D cI cZ _ pb (by omega)) ⟨va_cnB 1 hts (kx_gi wd_416) rfl rfl rfl (nw_654 hN) (hts _ wd_1) yd_Pt_only ⟨Nat.le_of_ble_eq_true rfl, Nat.le_of_ble_eq_true rfl⟩, hts _ wd_415, trivial⟩ (kp_S hP hD hK hN [] rfl rfl) rfl rfl hl.1 rfl (lv_room (Nat.le_of_ble_eq_true rfl)) dc_Ck_settlesPartners_80 ⟨Nat.le_of_ble_eq_true rfl, Nat.le_of_ble_eq_true rfl⟩) ?_
        refine lv_istore (lv' := [(6, .int (nI (2 ^ pb))), (4, .long (lN (pt_ru rs n))), (3, .int (nI n)), (2, .int (nI t)), (0, .ref o), (1, .int (nI j))]) hx hb dc_Ck_settlesPartners_83 hl (by decide) rfl (fun ls hl => ?_)
        refine lv_iconst (v := nI 1) hx hb dc_Ck_settlesPartners_85 (by decide +kernel) ?_
        refine lv_istore (lv' := [(7, .int (nI 1)), (6, .int (nI (2 ^ pb))), (4, .long (lN (pt_ru rs n))), (3, .int (nI n)), (2, .int (nI t)), (0, .ref o), (1, .int (nI j))]) hx hb dc_Ck_settlesPartners_86 hl (by decide) rfl (fun ls hl => ?_)
        have lp_88 : ∀ (K : Nat) (p0 : Nat) (u : Nat) (L : List Int32) (i : Nat) (v : Nat) (w : Nat) (rk : Nat → Nat) (ik : Nat → Nat) (H : Heap) (locs : List Loc) (ls : Array Slot), cn + 1 - p0 < K → va_P D kc_l [ck_c o xc xs xt xa lv, cl_c xc ca cb cd cn, ar_n cI ca 33 fz, ar_n cI cb 33 fs, ar_i cI cd (33 * 8) fl, as_c xa aa ab i v w, ar_n cI aa 8 rk, ar_n cI ab 8 ik, tr_c xt ta tb td (g + (L).length) mk ckd, ar_n cI ta 33 ft, ar_n cI tb 33 (va_up fc j (fc j + (L).length)), ar_i cI td 2048 (pt_put fr g (L))] H → va_D A [ck_c o xc xs xt xa lv, cl_c xc ca cb cd cn, ar_n cI ca 33 fz, ar_n cI cb 33 fs, ar_i cI cd (33 * 8) fl, as_c xa aa ab i v w, ar_n cI aa 8 rk, ar_n cI ab 8 ik, tr_c xt ta tb td (g + (L).length) mk ckd, ar_n cI ta 33 ft, ar_n cI tb 33 (va_up fc j (fc j + (L).length)), ar_i cI td 2048 (pt_put fr g (L))] → va_S A s.heap H locs → lv_has ls 10 [(7, .int (nI p0)), (6, .int (nI (2 ^ pb))), (4, .long (lN u)), (3, .int (nI n)), (2, .int (nI t)), (0, .ref o), (1, .int (nI j))] → (pt_sp fs lv mk cn (2 ^ pb) t n (cn + 1 - p0) p0 u L i v w rk ik = pt_sp fs lv mk cn (2 ^ pb) t n cn 1 (pt_ru rs n) (pt_rl rs n) n t f rs im) → (1 ≤ p0 ∧ p0 ≤ cn + 1) → (u < 2 ^ 62) → (∀ k, k < n → (1 ≤ rk k ∧ rk k ≤ cn) ∧ ik k < 65536) → W p l e ({ frames := 3, cells := 0, slots := 0, locals := 72 } : Room) s m ([.ref o, .int (nI j)] : List Value).toArray below meth c H locs 0 0 (MQ below (kw_q (some (.int (kb_i ((pt_sp fs lv mk cn (2 ^ pb) t n cn 1 (pt_ru rs n) (pt_rl rs n) n t f rs im).1)))) D kc_l [ck_c o xc xs xt xa lv, cl_c xc ca cb cd cn, ar_n cI ca 33 fz, ar_n cI cb 33 fs, ar_i cI cd (33 * 8) fl, as_c xa aa ab ((pt_sp fs lv mk cn (2 ^ pb) t n cn 1 (pt_ru rs n) (pt_rl rs n) n t f rs im).2.2.2.1) ((pt_sp fs lv mk cn (2 ^ pb) t n cn 1 (pt_ru rs n) (pt_rl rs n) n t f rs im).2.2.2.2.1) ((pt_sp fs lv mk cn (2 ^ pb) t n cn 1 (pt_ru rs n) (pt_rl rs n) n t f rs im).2.2.2.2.2.1), ar_n cI aa 8 ((pt_sp fs lv mk cn (2 ^ pb) t n cn 1 (pt_ru rs n) (pt_rl rs n) n t f rs im).2.2.2.2.2.2.1), ar_n cI ab 8 ((pt_sp fs lv mk cn (2 ^ pb) t n cn 1 (pt_ru rs n) (pt_rl rs n) n t f rs im).2.2.2.2.2.2.2), tr_c xt ta tb td (g + (pt_sp fs lv mk cn (2 ^ pb) t n cn 1 (pt_ru rs n) (pt_rl rs n) n t f rs im).2.2.1.length) (if (pt_sp fs lv mk cn (2 ^ pb) t n cn 1 (pt_ru rs n) (pt_rl rs n) n t f rs im).1 = true then mk ||| (pt_sp fs lv mk cn (2 ^ pb) t n cn 1 (pt_ru rs n) (pt_rl rs n) n t f rs im).2.1 else mk) ckd, ar_n cI ta 33 ft, ar_n cI tb 33 (va_up fc j (fc j + (pt_sp fs lv mk cn (2 ^ pb) t n cn 1 (pt_ru rs n) (pt_rl rs n) n t f rs im).2.2.1.length)), ar_i cI td 2048 (pt_put fr g (pt_sp fs lv mk cn (2 ^ pb) t n cn 1 (pt_ru rs n) (pt_rl rs n) n t f rs im).2.2.1)] A) ([.ref o, .int (nI j)] : List Value).toArray s 0 0 A) (F0 m 88 ls []) := by
          intro K
          induction K with
          | zero =>
            intro p0 u L i v w rk ik H locs ls hk
            exact absurd hk (Nat.not_lt_zero _)
          | succ K ih =>
            intro p0 u L i v w rk ik H locs ls hk hP hD hS hl h1 h2 h3 h4
            refine lv_iload hx hb dc_Ck_settlesPartners_88 (lv_at hl 0 rfl) ?_
            refine lv_aload_n hx hb dc_Ck_settlesPartners_90 rfl (lv_at hl 5 rfl) ?_
            refine va_get (ci := 7) (v := .ref xc) (C := rn_Ck) (T := fd_Ck) (N := 5) hx hb hts in_Ck hown hK hP 0 rfl rfl 0 (by decide) (hts _ wd_576) (fun _ h9 => h9) rfl dc_Ck_settlesPartners_91 ?_
            refine va_getN (ci := 2) (v := .int (nI cn)) (C := rn_Cl) (T := fd_Cl) (N := 4) hx hb hts in_Cl hown hK hP 1 rfl rfl 3 (by decide) (nf_74 hN) (fun _ h9 => h9) rfl dc_Ck_settlesPartners_94 ?_
            refine kn_icmp_gt hx hb (by omega) (by omega) dc_Ck_settlesPartners_97 rfl (fun hc97 => ?_) (fun hc97 => ?_)
            · refine lv_aload_n hx hb dc_Ck_settlesPartners_226 rfl (lv_at hl 5 rfl) ?_
              refine va_get (ci := 7) (v := .ref xt) (C := rn_Ck) (T := fd_Ck) (N := 5) hx hb hts in_Ck hown hK hP 0 rfl rfl 2 (by decide) (hts _ wd_578) (fun _ h9 => h9) rfl dc_Ck_settlesPartners_227 ?_
              refine lv_dup hx hb dc_Ck_settlesPartners_230 rfl ?_
              refine va_getN (ci := 5) (v := .long (lN mk)) (C := rn_Tr) (T := fd_Tr) (N := 6) hx hb hts in_Tr hown hK hP 8 rfl rfl 4 (by decide) (nf_140 hN) (fun _ h9 => h9) rfl dc_Ck_settlesPartners_231 ?_
              refine lv_lload hx hb dc_Ck_settlesPartners_234 (lv_at hl 2 rfl) ?_
              refine kl_lor hx hb dc_Ck_settlesPartners_236 ?_
              refine va_putN (ci := 5) (v := .long (lN (mk ||| u))) (ty := .long) (C := rn_Tr) (T := fd_Tr) (N := 6) hx hb hts in_Tr ty_Tr tk_Tr nm_Tr hown hK hP hD hS 8 rfl rfl 4 (by decide) (nf_140 hN) (fun _ h9 => h9) rfl (by decide +kernel) rfl rfl (Nat.le_of_ble_eq_true rfl) dc_Ck_settlesPartners_237 (fun H locs hP hD hS => ?_)
              have hP : va_P D kc_l [ck_c o xc xs xt xa lv, cl_c xc ca cb cd cn, ar_n cI ca 33 fz, ar_n cI cb 33 fs, ar_i cI cd (33 * 8) fl, as_c xa aa ab i v w, ar_n cI aa 8 rk, ar_n cI ab 8 ik, tr_c xt ta tb td (g + (L).length) (mk ||| u) ckd, ar_n cI ta 33 ft, ar_n cI tb 33 (va_up fc j (fc j + (L).length)), ar_i cI td 2048 (pt_put fr g (L))] H := hP
              have hD : va_D A [ck_c o xc xs xt xa lv, cl_c xc ca cb cd cn, ar_n cI ca 33 fz, ar_n cI cb 33 fs, ar_i cI cd (33 * 8) fl, as_c xa aa ab i v w, ar_n cI aa 8 rk, ar_n cI ab 8 ik, tr_c xt ta tb td (g + (L).length) (mk ||| u) ckd, ar_n cI ta 33 ft, ar_n cI tb 33 (va_up fc j (fc j + (L).length)), ar_i cI td 2048 (pt_put fr g (L))] := hD
              refine lv_iconst (v := nI 1) hx hb dc_Ck_settlesPartners_240 (by decide +kernel) ?_
              refine kn_top (y := kb_i true) (by decide +kernel) ?_
              exact kw_zret hx hb hr hlocks hP hD hS dc_Ck_settlesPartners_241 (by rw [← h1, sp_en (by omega)]) (by rw [← h1, sp_en (by omega)]; rfl)
            · refine lv_aload_n hx hb dc_Ck_settlesPartners_100 rfl (lv_at hl 5 rfl) ?_
              refine va_get (ci := 7) (v := .long (lN lv)) (C := rn_Ck) (T := fd_Ck) (N := 5) hx hb hts in_Ck hown hK hP 0 rfl rfl 4 (by decide) (hts _ wd_580) (fun _ h9 => h9) rfl dc_Ck_settlesPartners_101 ?_
              refine lv_iload hx hb dc_Ck_settlesPartners_104 (lv_at hl 0 rfl) ?_
              refine kr_call1 (va_runSN (As := [.long (lN lv), .int (nI p0)]) (rest := []) ⟨hx, hb, hml, hown, hts⟩ (ct_Pt_contains l D cI cZ _ lv p0 (hlv) (by omega)) ⟨va_cnB 2 hts (kx_gi wd_262) rfl rfl rfl (nw_602 hN) (hts _ wd_1) yd_Pt_contains ⟨Nat.le_of_ble_eq_true rfl, Nat.le_of_ble_eq_true rfl⟩, hts _ wd_261, trivial⟩ (kp_S hP hD hK hN [] rfl rfl) rfl rfl hl.1 rfl (lv_room (Nat.le_of_ble_eq_true rfl)) dc_Ck_settlesPartners_106 ⟨Nat.le_of_ble_eq_true rfl, Nat.le_of_ble_eq_true rfl⟩) ?_
              refine kb_if_eq hx hb dc_Ck_settlesPartners_109 rfl (fun hc109 => ?_) (fun hc109 => ?_)
              · refine lv_iinc (k := 0) (v := nI (p0 + 1)) (lv' := [(7, .int (nI (p0 + 1))), (6, .int (nI (2 ^ pb))), (4, .long (lN u)), (3, .int (nI n)), (2, .int (nI t)), (0, .ref o), (1, .int (nI j))]) hx hb dc_Ck_settlesPartners_220 hl rfl (nI_1 _) (by decide) rfl (fun ls hl => ?_)
                refine lv_goto hx hb dc_Ck_settlesPartners_223 rfl ?_
                exact ih _ _ _ _ _ _ _ _ _ _ _ (by omega) hP hD hS hl (by rw [← h1]; exact (sp_no (by omega) (Or.inl hc109)).symm) (⟨by omega, by omega⟩) (h3) (h4)
              · refine lv_aload_n hx hb dc_Ck_settlesPartners_112 rfl (lv_at hl 5 rfl) ?_
                refine va_get (ci := 7) (v := .ref xc) (C := rn_Ck) (T := fd_Ck) (N := 5) hx hb hts in_Ck hown hK hP 0 rfl rfl 0 (by decide) (hts _ wd_576) (fun _ h9 => h9) rfl dc_Ck_settlesPartners_113 ?_
                refine va_getN (ci := 2) (v := .ref cb) (C := rn_Cl) (T := fd_Cl) (N := 4) hx hb hts in_Cl hown hK hP 1 rfl rfl 1 (by decide) (nf_70 hN) (fun _ h9 => h9) rfl dc_Ck_settlesPartners_116 ?_
                refine lv_iload hx hb dc_Ck_settlesPartners_119 (lv_at hl 0 rfl) ?_
                refine ka_nald (t := fs) hx hb hK hP 3 0 rfl rfl (j := p0) (by omega) (by omega) dc_Ck_settlesPartners_121 ?_
                refine lv_iload hx hb dc_Ck_settlesPartners_122 (lv_at hl 1 rfl) ?_
                refine kn_iand hx hb dc_Ck_settlesPartners_124 ?_
                refine kn_if_ne hx hb (Nat.lt_of_le_of_lt Nat.and_le_left (Nat.lt_trans (h16 p0) (by decide))) dc_Ck_settlesPartners_125 rfl (fun hc125 => ?_) (fun hc125 => ?_)
                · have hpn : ¬ (lv.testBit p0 = false ∨ fs p0 &&& 2 ^ pb = 0) := fun q => q.elim (fun q1 => by rw [hc109] at q1; exact absurd q1 (by decide)) hc125
                  have hfit1 : g + (L ++ [-nI p0]).length ≤ 2048 := by
                    have h9 : (L ++ [-nI p0]).length ≤ (pt_sp fs lv mk cn (2 ^ pb) t n (cn + 1 - p0) p0 u L i v w rk ik).2.2.1.length := sp_len1 (by omega) hpn
                    rw [h1] at h9
                    omega
                  have hfit2 : g + L.length + 1 ≤ 2048 := by rw [← len_s]; exact hfit1
                  refine lv_aload_n hx hb dc_Ck_settlesPartners_131 rfl (lv_at hl 5 rfl) ?_
                  refine va_get (ci := 7) (v := .ref xt) (C := rn_Ck) (T := fd_Ck) (N := 5) hx hb hts in_Ck hown hK hP 0 rfl rfl 2 (by decide) (hts _ wd_578) (fun _ h9 => h9) rfl dc_Ck_settlesPartners_132 ?_
                  refine lv_iload_n hx hb dc_Ck_settlesPartners_135 rfl (lv_at hl 6 rfl) ?_
                  refine lv_iload hx hb dc_Ck_settlesPartners_136 (lv_at hl 0 rfl) ?_
                  refine lv_ineg hx hb dc_Ck_settlesPartners_138 ?_
                  refine kw_call0 (wr := [ck_c o xc xs xt xa lv, cl_c xc ca cb cd cn, ar_n cI ca 33 fz, ar_n cI cb 33 fs, ar_i cI cd (33 * 8) fl, as_c xa aa ab i v w, ar_n cI aa 8 rk, ar_n cI ab 8 ik]) (ws' := [ck_c o xc xs xt xa lv, cl_c xc ca cb cd cn, ar_n cI ca 33 fz, ar_n cI cb 33 fs, ar_i cI cd (33 * 8) fl, as_c xa aa ab i v w, ar_n cI aa 8 rk, ar_n cI ab 8 ik, tr_c xt ta tb td ((g + (L).length) + 1) mk ckd, ar_n cI ta 33 ft, ar_n cI tb 33 (va_up (va_up fc j (fc j + (L).length)) j ((va_up fc j (fc j + (L).length)) j + 1)), ar_i cI td 2048 (upd (pt_put fr g (L)) (g + (L).length) (-(nI p0)))]) (va_runV (As := [.int (nI j), .int (-(nI p0))]) (rest := []) ⟨hx, hb, hml, hown, hts⟩ (ct_Tr_append l D cI cZ _ xt ta tb td (g + (L).length) mk ckd ft (va_up fc j (fc j + (L).length)) (pt_put fr g (L)) j (-(nI p0)) (by omega) (by omega)) (cwV 2 hts (kx_gV wd_645 wd_646 wd_647 wd_7 wd_648) rfl rfl rfl ⟨rfl, yd_Tr_append⟩ ⟨Nat.le_of_ble_eq_true rfl, Nat.le_of_ble_eq_true rfl⟩) (kp_V (q0 := 8) (ci := 5) hP hD hK hN [8, 9, 10, 11] rfl rfl rfl rfl rfl) rfl rfl hl.1 rfl (lv_room (Nat.le_of_ble_eq_true rfl)) dc_Ck_settlesPartners_139 ⟨Nat.le_of_ble_eq_true rfl, Nat.le_of_ble_eq_true rfl⟩) hP hD hS hA [8, 9, 10, 11] [0, 1, 2, 3, 4, 5, 6, 7] [0, 1, 2, 3, 4, 5, 6, 7, 8, 9, 10, 11] rfl rfl rfl (by decide) rfl rfl (fun H locs hP hD hS => ?_)
                  have hP : va_P D kc_l [ck_c o xc xs xt xa lv, cl_c xc ca cb cd cn, ar_n cI ca 33 fz, ar_n cI cb 33 fs, ar_i cI cd (33 * 8) fl, as_c xa aa ab i v w, ar_n cI aa 8 rk, ar_n cI ab 8 ik, tr_c xt ta tb td (g + (L ++ [-nI p0]).length) mk ckd, ar_n cI ta 33 ft, ar_n cI tb 33 (va_up fc j (fc j + (L ++ [-nI p0]).length)), ar_i cI td 2048 (pt_put fr g (L ++ [-nI p0]))] H := by rw [len_s, ← put_s, ← cnt_s]; exact hP
                  have hD : va_D A [ck_c o xc xs xt xa lv, cl_c xc ca cb cd cn, ar_n cI ca 33 fz, ar_n cI cb 33 fs, ar_i cI cd (33 * 8) fl, as_c xa aa ab i v w, ar_n cI aa 8 rk, ar_n cI ab 8 ik, tr_c xt ta tb td (g + (L ++ [-nI p0]).length) mk ckd, ar_n cI ta 33 ft, ar_n cI tb 33 (va_up fc j (fc j + (L ++ [-nI p0]).length)), ar_i cI td 2048 (pt_put fr g (L ++ [-nI p0]))] := by rw [len_s, ← put_s, ← cnt_s]; exact hD
                  refine lv_lload hx hb dc_Ck_settlesPartners_142 (lv_at hl 2 rfl) ?_
                  refine lv_iload hx hb dc_Ck_settlesPartners_144 (lv_at hl 0 rfl) ?_
                  refine kr_call1 (va_runSN (As := [.int (nI p0)]) (rest := [.long (lN u)]) ⟨hx, hb, hml, hown, hts⟩ (ct_Pt_one l D cI cZ _ p0 (by omega)) ⟨va_cnB 1 hts (kx_gi wd_559) rfl rfl rfl (nw_600 hN) (hts _ wd_1) yd_Pt_one ⟨Nat.le_of_ble_eq_true rfl, Nat.le_of_ble_eq_true rfl⟩, hts _ wd_558, trivial⟩ (kp_S hP hD hK hN [] rfl rfl) rfl rfl hl.1 rfl (lv_room (Nat.le_of_ble_eq_true rfl)) dc_Ck_settlesPartners_146 ⟨Nat.le_of_ble_eq_true rfl, Nat.le_of_ble_eq_true rfl⟩) ?_
                  refine kl_lor hx hb dc_Ck_settlesPartners_149 ?_
                  refine lv_lstore (lv' := [(4, .long (lN (u ||| (2 ^ p0)))), (7, .int (nI p0)), (6, .int (nI (2 ^ pb))), (3, .int (nI n)), (2, .int (nI t)), (0, .ref o), (1, .int (nI j))]) hx hb dc_Ck_settlesPartners_150 hl (by decide) rfl (fun ls hl => ?_)
                  refine lv_aload_n hx hb dc_Ck_settlesPartners_152 rfl (lv_at hl 5 rfl) ?_
                  refine va_get (ci := 7) (v := .ref xc) (C := rn_Ck) (T := fd_Ck) (N := 5) hx hb hts in_Ck hown hK hP 0 rfl rfl 0 (by decide) (hts _ wd_576) (fun _ h9 => h9) rfl dc_Ck_settlesPartners_153 ?_
                  refine va_getN (ci := 2) (v := .ref cb) (C := rn_Cl) (T := fd_Cl) (N := 4) hx hb hts in_Cl hown hK hP 1 rfl rfl 1 (by decide) (nf_70 hN) (fun _ h9 => h9) rfl dc_Ck_settlesPartners_156 ?_
                  refine lv_iload hx hb dc_Ck_settlesPartners_159 (lv_at hl 1 rfl) ?_
                  refine ka_nald (t := fs) hx hb hK hP 3 0 rfl rfl (j := p0) (by omega) (by omega) dc_Ck_settlesPartners_161 ?_
                  refine lv_iload hx hb dc_Ck_settlesPartners_162 (lv_at hl 2 rfl) ?_
                  refine lv_iconst (v := (-1)) hx hb dc_Ck_settlesPartners_164 (by decide +kernel) ?_
                  refine lv_ixor hx hb dc_Ck_settlesPartners_165 ?_
                  refine kn_inot hx hb dc_Ck_settlesPartners_166 ?_
                  refine lv_istore (lv' := [(8, .int (nI (nb_d (fs p0) (2 ^ pb)))), (4, .long (lN (u ||| (2 ^ p0)))), (7, .int (nI p0)), (6, .int (nI (2 ^ pb))), (3, .int (nI n)), (2, .int (nI t)), (0, .ref o), (1, .int (nI j))]) hx hb dc_Ck_settlesPartners_167 hl (by decide) rfl (fun ls hl => ?_)
                  refine lv_iload hx hb dc_Ck_settlesPartners_169 (lv_at hl 0 rfl) ?_
                  refine lv_iload_n hx hb dc_Ck_settlesPartners_171 rfl (lv_at hl 5 rfl) ?_
                  refine kn_iand hx hb dc_Ck_settlesPartners_172 ?_
                  refine kn_if_eq hx hb (Nat.lt_of_le_of_lt Nat.and_le_left (Nat.lt_trans (nb_d_lt (n := 16) (h16 p0)) (by decide))) dc_Ck_settlesPartners_173 rfl (fun hc173 => ?_) (fun hc173 => ?_)
                  · have hc173 : nb_d (fs p0) (2 ^ pb) &&& t = 0 := hc173
                    have ho16 : nb_d (fs p0) (2 ^ pb) < 65536 := nb_d_lt (n := 16) (h16 p0)
                    have hnt : t ||| nb_op (nb_d (fs p0) (2 ^ pb)) < 65536 := Nat.or_lt_two_pow (n := 16) hok.1.1 (nb_op_lt ho16)
                    have hcap9 : pt_cap n (t ||| nb_op (nb_d (fs p0) (2 ^ pb))) (nb_op (t ||| nb_op (nb_d (fs p0) (2 ^ pb)))) := ⟨hnt, rfl, by have := free_mono t (nb_op (nb_d (fs p0) (2 ^ pb))); have := hok.1.2.2; omega⟩
                    refine lv_aload_n hx hb dc_Ck_settlesPartners_179 rfl (lv_at hl 6 rfl) ?_
                    refine va_get (ci := 7) (v := .ref xa) (C := rn_Ck) (T := fd_Ck) (N := 5) hx hb hts in_Ck hown hK hP 0 rfl rfl 3 (by decide) (hts _ wd_579) (fun _ h9 => h9) rfl dc_Ck_settlesPartners_180 ?_
                    refine lv_iload_n hx hb dc_Ck_settlesPartners_183 rfl (lv_at hl 5 rfl) ?_
                    refine lv_iload hx hb dc_Ck_settlesPartners_184 (lv_at hl 0 rfl) ?_
                    refine kr_call1 (va_runSN (As := [.int (nI (nb_d (fs p0) (2 ^ pb)))]) (rest := [.int (nI t), .ref xa]) ⟨hx, hb, hml, hown, hts⟩ (ct_Pt_opposites l D cI cZ _ (nb_d (fs p0) (2 ^ pb)) (nb_d_lt (n := 16) (h16 p0))) ⟨va_cnB 1 hts (kx_gi wd_613) rfl rfl rfl (nw_611 hN) (hts _ wd_1) yd_Pt_opposites ⟨Nat.le_of_ble_eq_true rfl, Nat.le_of_ble_eq_true rfl⟩, hts _ wd_612, trivial⟩ (kp_S hP hD hK hN [] rfl rfl) rfl rfl hl.1 rfl (lv_room (Nat.le_of_ble_eq_true rfl)) dc_Ck_settlesPartners_186 ⟨Nat.le_of_ble_eq_true rfl, Nat.le_of_ble_eq_true rfl⟩) ?_
                    refine kn_ior hx hb dc_Ck_settlesPartners_189 ?_
                    refine lv_iload_n hx hb dc_Ck_settlesPartners_190 rfl (lv_at hl 4 rfl) ?_
                    refine kw_call0 (wr := [ck_c o xc xs xt xa lv, cl_c xc ca cb cd cn, ar_n cI ca 33 fz, ar_n cI cb 33 fs, ar_i cI cd (33 * 8) fl, ar_n cI aa 8 rk, ar_n cI ab 8 ik, tr_c xt ta tb td (g + (L ++ [-nI p0]).length) mk ckd, ar_n cI ta 33 ft, ar_n cI tb 33 (va_up fc j (fc j + (L ++ [-nI p0]).length)), ar_i cI td 2048 (pt_put fr g (L ++ [-nI p0]))]) (ws' := [ck_c o xc xs xt xa lv, cl_c xc ca cb cd cn, ar_n cI ca 33 fz, ar_n cI cb 33 fs, ar_i cI cd (33 * 8) fl, as_c xa aa ab n (t ||| (nb_op (nb_d (fs p0) (2 ^ pb)))) (nb_op (t ||| (nb_op (nb_d (fs p0) (2 ^ pb))))), ar_n cI aa 8 rk, ar_n cI ab 8 ik, tr_c xt ta tb td (g + (L ++ [-nI p0]).length) mk ckd, ar_n cI ta 33 ft, ar_n cI tb 33 (va_up fc j (fc j + (L ++ [-nI p0]).length)), ar_i cI td 2048 (pt_put fr g (L ++ [-nI p0]))]) (va_runV (As := [.int (nI (t ||| (nb_op (nb_d (fs p0) (2 ^ pb))))), .int (nI n)]) (rest := []) ⟨hx, hb, hml, hown, hts⟩ (ct_As_restart l D cI cZ _ xa aa ab i v w (t ||| (nb_op (nb_d (fs p0) (2 ^ pb)))) n (hnt)) (cwV 2 hts (kx_gV wd_615 wd_616 wd_617 wd_8 wd_618) rfl rfl rfl ⟨rfl, yd_As_restart⟩ ⟨Nat.le_of_ble_eq_true rfl, Nat.le_of_ble_eq_true rfl⟩) (kp_V (q0 := 5) (ci := 6) hP hD hK hN [5] rfl rfl rfl rfl rfl) rfl rfl hl.1 rfl (lv_room (Nat.le_of_ble_eq_true rfl)) dc_Ck_settlesPartners_191 ⟨Nat.le_of_ble_eq_true rfl, Nat.le_of_ble_eq_true rfl⟩) hP hD hS hA [5] [0, 1, 2, 3, 4, 6, 7, 8, 9, 10, 11] [0, 1, 2, 3, 4, 11, 5, 6, 7, 8, 9, 10] rfl rfl rfl (by decide) rfl rfl (fun H locs hP hD hS => ?_)
                    refine lv_aload_n hx hb dc_Ck_settlesPartners_194 rfl (lv_at hl 6 rfl) ?_
                    refine kw_call1 (wr := [ar_n cI ca 33 fz, ar_i cI cd (33 * 8) fl, ar_n cI ta 33 ft, ar_n cI tb 33 (va_up fc j (fc j + (L ++ [-nI p0]).length)), ar_i cI td 2048 (pt_put fr g (L ++ [-nI p0]))]) (ws' := [ck_c o xc xs xt xa lv, cl_c xc ca cb cd cn, ar_n cI ca 33 fz, ar_n cI cb 33 fs, ar_i cI cd (33 * 8) fl, as_c xa aa ab ((pt_prop fs lv mk cn 9 n (t ||| (nb_op (nb_d (fs p0) (2 ^ pb)))) (nb_op (t ||| (nb_op (nb_d (fs p0) (2 ^ pb))))) rk ik).2.1) ((pt_prop fs lv mk cn 9 n (t ||| (nb_op (nb_d (fs p0) (2 ^ pb)))) (nb_op (t ||| (nb_op (nb_d (fs p0) (2 ^ pb))))) rk ik).2.2.1) ((pt_prop fs lv mk cn 9 n (t ||| (nb_op (nb_d (fs p0) (2 ^ pb)))) (nb_op (t ||| (nb_op (nb_d (fs p0) (2 ^ pb))))) rk ik).2.2.2.1), ar_n cI aa 8 ((pt_prop fs lv mk cn 9 n (t ||| (nb_op (nb_d (fs p0) (2 ^ pb)))) (nb_op (t ||| (nb_op (nb_d (fs p0) (2 ^ pb))))) rk ik).2.2.2.2.1), ar_n cI ab 8 ((pt_prop fs lv mk cn 9 n (t ||| (nb_op (nb_d (fs p0) (2 ^ pb)))) (nb_op (t ||| (nb_op (nb_d (fs p0) (2 ^ pb))))) rk ik).2.2.2.2.2), tr_c xt ta tb td (g + (L ++ [-nI p0]).length) mk ckd, ar_n cI ta 33 ft, ar_n cI tb 33 (va_up fc j (fc j + (L ++ [-nI p0]).length)), ar_i cI td 2048 (pt_put fr g (L ++ [-nI p0]))]) (va_runV (As := []) (rest := []) ⟨hx, hb, hml, hown, hts⟩ (ct_Ck_propagate l D cI cZ _ o xc xs xt xa lv ca cb cd cn fs aa ab n (t ||| (nb_op (nb_d (fs p0) (2 ^ pb)))) (nb_op (t ||| (nb_op (nb_d (fs p0) (2 ^ pb))))) rk ik ta tb td (g + (L ++ [-nI p0]).length) mk ckd (by omega) (h16) (hlv) (hcap9)) (cwV 0 hts (kx_gV wd_620 wd_622 (kx_sel (q := (yn_Ck_propagate, 5)) (List.mem_append_left _ (List.mem_of_getElem? (i := 4) rfl))) wd_20 wd_623) rfl rfl rfl ⟨rfl, yd_Ck_propagate⟩ ⟨Nat.le_of_ble_eq_true rfl, Nat.le_of_ble_eq_true rfl⟩) (kp_V (q0 := 0) (ci := 7) hP hD hK hN [0, 1, 3, 5, 6, 7, 8] rfl rfl rfl rfl rfl) rfl rfl hl.1 rfl (lv_room (Nat.le_of_ble_eq_true rfl)) dc_Ck_settlesPartners_195 ⟨Nat.le_of_ble_eq_true rfl, Nat.le_of_ble_eq_true rfl⟩) hP hD hS hA [0, 1, 3, 5, 6, 7, 8] [2, 4, 9, 10, 11] [5, 6, 0, 7, 1, 8, 9, 10, 11, 2, 3, 4] rfl rfl rfl (by decide) rfl rfl (fun H locs hP hD hS => ?_)
                    have hpo := prop_ok (lv := lv) (mk := mk) (cn := cn) h16 9 n (t ||| nb_op (nb_d (fs p0) (2 ^ pb))) (nb_op (t ||| nb_op (nb_d (fs p0) (2 ^ pb)))) rk ik ⟨hcap9, h4⟩
                    generalize hRe : pt_prop fs lv mk cn 9 n (t ||| nb_op (nb_d (fs p0) (2 ^ pb))) (nb_op (t ||| nb_op (nb_d (fs p0) (2 ^ pb)))) rk ik = RR at hpo hP hD ⊢
                    refine lv_istore (lv' := [(9, .int (nI RR.1)), (8, .int (nI (nb_d (fs p0) (2 ^ pb)))), (4, .long (lN (u ||| (2 ^ p0)))), (7, .int (nI p0)), (6, .int (nI (2 ^ pb))), (3, .int (nI n)), (2, .int (nI t)), (0, .ref o), (1, .int (nI j))]) hx hb dc_Ck_settlesPartners_198 hl (by decide) rfl (fun ls hl => ?_)
                    refine lv_iload hx hb dc_Ck_settlesPartners_200 (lv_at hl 0 rfl) ?_
                    refine kn_if_ne hx hb (by have := hpo.1; omega) dc_Ck_settlesPartners_202 rfl (fun hc202 => ?_) (fun hc202 => ?_)
                    · have hu33 : pt_used fs RR.2.2.2.2.1 RR.2.2.2.2.2 RR.2.1 (2 ^ RR.1) (fs RR.1) < 2 ^ 33 := used_lt _ _ _ (Nat.pow_lt_pow_right (by decide) (by have := hpo.1; omega)) (fun k hk => by have := (hpo.2.2.2 k hk).1; omega)
                      have hrn8 := aok_n hpo.2.2
                      have hgo := sp_go (u := u) (L := L) (n := i) (t := v) (f := w) (by omega) hpn hc173 hRe hc202
                      have hfit3 : g + (L ++ [-nI p0]).length + (pt_exs RR.2.2.2.2.1 (pt_used fs RR.2.2.2.2.1 RR.2.2.2.2.2 RR.2.1 (2 ^ RR.1) (fs RR.1)) n (RR.2.1 - n) ++ [nI RR.1]).length ≤ 2048 := by
                        have h9 := sp_len (fs := fs) (lv := lv) (mk := mk) (cn := cn) (pv := 2 ^ pb) (rc := t) (n0 := n) (cn + 1 - (p0 + 1)) (p0 + 1) (u ||| 2 ^ p0 ||| pt_used fs RR.2.2.2.2.1 RR.2.2.2.2.2 RR.2.1 (2 ^ RR.1) (fs RR.1)) (L ++ [-nI p0] ++ (pt_exs RR.2.2.2.2.1 (pt_used fs RR.2.2.2.2.1 RR.2.2.2.2.2 RR.2.1 (2 ^ RR.1) (fs RR.1)) n (RR.2.1 - n) ++ [nI RR.1])) RR.2.1 RR.2.2.1 RR.2.2.2.1 RR.2.2.2.2.1 RR.2.2.2.2.2
                        rw [← hgo, h1] at h9
                        rw [← len_app]
                        omega
                      refine lv_lload hx hb dc_Ck_settlesPartners_207 (lv_at hl 2 rfl) ?_
                      refine lv_aload_n hx hb dc_Ck_settlesPartners_209 rfl (lv_at hl 7 rfl) ?_
                      refine lv_iload_n hx hb dc_Ck_settlesPartners_210 rfl (lv_at hl 8 rfl) ?_
                      refine lv_iload_n hx hb dc_Ck_settlesPartners_211 rfl (lv_at hl 5 rfl) ?_
                      refine lv_iload hx hb dc_Ck_settlesPartners_212 (lv_at hl 0 rfl) ?_
                      refine kw_call1 (wr := [ar_n cI ca 33 fz, ar_i cI cd (33 * 8) fl]) (ws' := [ck_c o xc xs xt xa lv, cl_c xc ca cb cd cn, ar_n cI ca 33 fz, ar_n cI cb 33 fs, ar_i cI cd (33 * 8) fl, as_c xa aa ab RR.2.1 RR.2.2.1 RR.2.2.2.1, ar_n cI aa 8 RR.2.2.2.2.1, ar_n cI ab 8 RR.2.2.2.2.2, tr_c xt ta tb td ((g + (L ++ [-nI p0]).length) + (pt_exs RR.2.2.2.2.1 (pt_used fs RR.2.2.2.2.1 RR.2.2.2.2.2 RR.2.1 (2 ^ RR.1) (fs RR.1)) n (RR.2.1 - n) ++ [nI RR.1]).length) mk ckd, ar_n cI ta 33 ft, ar_n cI tb 33 (va_up (va_up fc j (fc j + (L ++ [-nI p0]).length)) j ((va_up fc j (fc j + (L ++ [-nI p0]).length)) j + (pt_exs RR.2.2.2.2.1 (pt_used fs RR.2.2.2.2.1 RR.2.2.2.2.2 RR.2.1 (2 ^ RR.1) (fs RR.1)) n (RR.2.1 - n) ++ [nI RR.1]).length)), ar_i cI td 2048 (pt_put (pt_put fr g (L ++ [-nI p0])) (g + (L ++ [-nI p0]).length) (pt_exs RR.2.2.2.2.1 (pt_used fs RR.2.2.2.2.1 RR.2.2.2.2.2 RR.2.1 (2 ^ RR.1) (fs RR.1)) n (RR.2.1 - n) ++ [nI RR.1]))]) (va_runV (As := [.int (nI j), .int (nI n), .int (nI RR.1)]) (rest := [.long (lN (u ||| (2 ^ p0)))]) ⟨hx, hb, hml, hown, hts⟩ (ct_Ck_explain l D cI cZ _ o xc xs xt xa lv ca cb cd cn fs aa ab RR.2.1 RR.2.2.1 RR.2.2.2.1 RR.2.2.2.2.1 RR.2.2.2.2.2 ta tb td (g + (L ++ [-nI p0]).length) mk ckd ft (va_up fc j (fc j + (L ++ [-nI p0]).length)) (pt_put fr g (L ++ [-nI p0])) j n RR.1 (hcn) (hrn8) (fun k hk => ⟨by have := (hpo.2.2.2 k hk).1; omega, (hpo.2.2.2 k hk).2⟩) (by have := hpo.1; omega) (by omega) (hpo.2.1) (Nat.lt_trans hu33 (by decide)) (hfit3)) (cwV 3 hts (kx_gV wd_636 wd_638 (kx_sel (q := (yn_Ck_explain, 5)) (List.mem_append_left _ (List.mem_of_getElem? (i := 6) rfl))) wd_20 wd_639) rfl rfl rfl ⟨rfl, yd_Ck_explain⟩ ⟨Nat.le_of_ble_eq_true rfl, Nat.le_of_ble_eq_true rfl⟩) (kp_V (q0 := 0) (ci := 7) hP hD hK hN [0, 1, 3, 5, 6, 7, 8, 9, 10, 11] rfl rfl rfl rfl rfl) rfl rfl hl.1 rfl (lv_room (Nat.le_of_ble_eq_true rfl)) dc_Ck_settlesPartners_214 ⟨Nat.le_of_ble_eq_true rfl, Nat.le_of_ble_eq_true rfl⟩) hP hD hS hA [0, 1, 3, 5, 6, 7, 8, 9, 10, 11] [2, 4] [2, 3, 0, 4, 1, 5, 6, 7, 8, 9, 10, 11] rfl rfl rfl (by decide) rfl rfl (fun H locs hP hD hS => ?_)
                      have hP : va_P D kc_l [ck_c o xc xs xt xa lv, cl_c xc ca cb cd cn, ar_n cI ca 33 fz, ar_n cI cb 33 fs, ar_i cI cd (33 * 8) fl, as_c xa aa ab RR.2.1 RR.2.2.1 RR.2.2.2.1, ar_n cI aa 8 RR.2.2.2.2.1, ar_n cI ab 8 RR.2.2.2.2.2, tr_c xt ta tb td (g + (L ++ [-nI p0] ++ (pt_exs RR.2.2.2.2.1 (pt_used fs RR.2.2.2.2.1 RR.2.2.2.2.2 RR.2.1 (2 ^ RR.1) (fs RR.1)) n (RR.2.1 - n) ++ [nI RR.1])).length) mk ckd, ar_n cI ta 33 ft, ar_n cI tb 33 (va_up fc j (fc j + (L ++ [-nI p0] ++ (pt_exs RR.2.2.2.2.1 (pt_used fs RR.2.2.2.2.1 RR.2.2.2.2.2 RR.2.1 (2 ^ RR.1) (fs RR.1)) n (RR.2.1 - n) ++ [nI RR.1])).length)), ar_i cI td 2048 (pt_put fr g (L ++ [-nI p0] ++ (pt_exs RR.2.2.2.2.1 (pt_used fs RR.2.2.2.2.1 RR.2.2.2.2.2 RR.2.1 (2 ^ RR.1) (fs RR.1)) n (RR.2.1 - n) ++ [nI RR.1])))] H := by rw [len_app, ← put_app, ← cnt_app]; exact hP
                      have hD : va_D A [ck_c o xc xs xt xa lv, cl_c xc ca cb cd cn, ar_n cI ca 33 fz, ar_n cI cb 33 fs, ar_i cI cd (33 * 8) fl, as_c xa aa ab RR.2.1 RR.2.2.1 RR.2.2.2.1, ar_n cI aa 8 RR.2.2.2.2.1, ar_n cI ab 8 RR.2.2.2.2.2, tr_c xt ta tb td (g + (L ++ [-nI p0] ++ (pt_exs RR.2.2.2.2.1 (pt_used fs RR.2.2.2.2.1 RR.2.2.2.2.2 RR.2.1 (2 ^ RR.1) (fs RR.1)) n (RR.2.1 - n) ++ [nI RR.1])).length) mk ckd, ar_n cI ta 33 ft, ar_n cI tb 33 (va_up fc j (fc j + (L ++ [-nI p0] ++ (pt_exs RR.2.2.2.2.1 (pt_used fs RR.2.2.2.2.1 RR.2.2.2.2.2 RR.2.1 (2 ^ RR.1) (fs RR.1)) n (RR.2.1 - n) ++ [nI RR.1])).length)), ar_i cI td 2048 (pt_put fr g (L ++ [-nI p0] ++ (pt_exs RR.2.2.2.2.1 (pt_used fs RR.2.2.2.2.1 RR.2.2.2.2.2 RR.2.1 (2 ^ RR.1) (fs RR.1)) n (RR.2.1 - n) ++ [nI RR.1])))] := by rw [len_app, ← put_app, ← cnt_app]; exact hD
                      refine kl_lor hx hb dc_Ck_settlesPartners_217 ?_
                      refine lv_lstore (lv' := [(4, .long (lN ((u ||| (2 ^ p0)) ||| (pt_used fs RR.2.2.2.2.1 RR.2.2.2.2.2 RR.2.1 (2 ^ RR.1) (fs RR.1))))), (9, .int (nI RR.1)), (8, .int (nI (nb_d (fs p0) (2 ^ pb)))), (7, .int (nI p0)), (6, .int (nI (2 ^ pb))), (3, .int (nI n)), (2, .int (nI t)), (0, .ref o), (1, .int (nI j))]) hx hb dc_Ck_settlesPartners_218 hl (by decide) rfl (fun ls hl => ?_)
                      refine lv_iinc (k := 3) (v := nI (p0 + 1)) (lv' := [(7, .int (nI (p0 + 1))), (4, .long (lN ((u ||| (2 ^ p0)) ||| (pt_used fs RR.2.2.2.2.1 RR.2.2.2.2.2 RR.2.1 (2 ^ RR.1) (fs RR.1))))), (9, .int (nI RR.1)), (8, .int (nI (nb_d (fs p0) (2 ^ pb)))), (6, .int (nI (2 ^ pb))), (3, .int (nI n)), (2, .int (nI t)), (0, .ref o), (1, .int (nI j))]) hx hb dc_Ck_settlesPartners_220 hl rfl (nI_1 _) (by decide) rfl (fun ls hl => ?_)
                      refine lv_goto hx hb dc_Ck_settlesPartners_223 rfl ?_
                      have hl := lv_sub (l' := [(7, .int (nI (p0 + 1))), (6, .int (nI (2 ^ pb))), (4, .long (lN ((u ||| (2 ^ p0)) ||| (pt_used fs RR.2.2.2.2.1 RR.2.2.2.2.2 RR.2.1 (2 ^ RR.1) (fs RR.1))))), (3, .int (nI n)), (2, .int (nI t)), (0, .ref o), (1, .int (nI j))]) hl [0, 4, 1, 5, 6, 7, 8] rfl
                      exact ih _ _ _ _ _ _ _ _ _ _ _ (by omega) hP hD hS hl (by rw [← h1]; exact hgo.symm) (⟨by omega, by omega⟩) (Nat.or_lt_two_pow (Nat.or_lt_two_pow h3 (Nat.pow_lt_pow_right (by decide) (by omega))) (Nat.lt_trans hu33 (by decide))) (fun k hk => hpo.2.2.2 k (by have := hpo.2.1; omega))
                    · refine lv_iconst (v := nI 0) hx hb dc_Ck_settlesPartners_205 (by decide +kernel) ?_
                      refine kn_top (y := kb_i false) (by decide +kernel) ?_
                      exact kw_zret hx hb hr hlocks hP hD hS dc_Ck_settlesPartners_206 (by rw [← h1, sp_bad (by omega) hpn hc173 (by rw [hRe]; exact hc202)]) (by rw [← h1, sp_bad (by omega) hpn hc173 (by rw [hRe]; exact hc202), hRe]; rfl)
                  · refine lv_goto hx hb dc_Ck_settlesPartners_176 rfl ?_
                    refine lv_iinc (k := 2) (v := nI (p0 + 1)) (lv' := [(7, .int (nI (p0 + 1))), (8, .int (nI (nb_d (fs p0) (2 ^ pb)))), (4, .long (lN (u ||| (2 ^ p0)))), (6, .int (nI (2 ^ pb))), (3, .int (nI n)), (2, .int (nI t)), (0, .ref o), (1, .int (nI j))]) hx hb dc_Ck_settlesPartners_220 hl rfl (nI_1 _) (by decide) rfl (fun ls hl => ?_)
                    refine lv_goto hx hb dc_Ck_settlesPartners_223 rfl ?_
                    have hl := lv_sub (l' := [(7, .int (nI (p0 + 1))), (6, .int (nI (2 ^ pb))), (4, .long (lN (u ||| (2 ^ p0)))), (3, .int (nI n)), (2, .int (nI t)), (0, .ref o), (1, .int (nI j))]) hl [0, 3, 2, 4, 5, 6, 7] rfl
                    exact ih _ _ _ _ _ _ _ _ _ _ _ (by omega) hP hD hS hl (by rw [← h1]; exact (sp_true (by omega) hpn hc173).symm) (⟨by omega, by omega⟩) (Nat.or_lt_two_pow h3 (Nat.pow_lt_pow_right (by decide) (by omega))) (h4)
                · refine lv_goto hx hb dc_Ck_settlesPartners_128 rfl ?_
                  refine lv_iinc (k := 0) (v := nI (p0 + 1)) (lv' := [(7, .int (nI (p0 + 1))), (6, .int (nI (2 ^ pb))), (4, .long (lN u)), (3, .int (nI n)), (2, .int (nI t)), (0, .ref o), (1, .int (nI j))]) hx hb dc_Ck_settlesPartners_220 hl rfl (nI_1 _) (by decide) rfl (fun ls hl => ?_)
                  refine lv_goto hx hb dc_Ck_settlesPartners_223 rfl ?_
                  exact ih _ _ _ _ _ _ _ _ _ _ _ (by omega) hP hD hS hl (by rw [← h1]; exact (sp_no (by omega) (Or.inr hc125)).symm) (⟨by omega, by omega⟩) (h3) (h4)
        exact lp_88 _ _ _ _ _ _ _ _ _ _ _ _ (Nat.lt_succ_self _) hP hD hS hl (rfl) (⟨by omega, by omega⟩) (Nat.lt_trans (ru_lt n (fun k hk => by have := (hok.2 k hk).1; omega)) (by decide)) (hok.2)
      · refine lv_aload_n hx hb dc_Ck_settlesPartners_28 rfl (lv_at hl 4 rfl) ?_
        refine va_get (ci := 7) (v := .ref xt) (C := rn_Ck) (T := fd_Ck) (N := 5) hx hb hts in_Ck hown hK hP 0 rfl rfl 2 (by decide) (hts _ wd_578) (fun _ h9 => h9) rfl dc_Ck_settlesPartners_29 ?_
        refine lv_iload_n hx hb dc_Ck_settlesPartners_32 rfl (lv_at hl 5 rfl) ?_
        refine lv_aload_n hx hb dc_Ck_settlesPartners_33 rfl (lv_at hl 4 rfl) ?_
        refine va_get (ci := 7) (v := .ref xa) (C := rn_Ck) (T := fd_Ck) (N := 5) hx hb hts in_Ck hown hK hP 0 rfl rfl 3 (by decide) (hts _ wd_579) (fun _ h9 => h9) rfl dc_Ck_settlesPartners_34 ?_
        refine va_getN (ci := 6) (v := .ref aa) (C := rn_As) (T := fd_As) (N := 5) hx hb hts in_As hown hK hP 5 rfl rfl 0 (by decide) (nf_165 hN) (fun _ h9 => h9) rfl dc_Ck_settlesPartners_37 ?_
        refine lv_iload hx hb dc_Ck_settlesPartners_40 (lv_at hl 0 rfl) ?_
        refine ka_nald (t := rs) hx hb hK hP 6 0 rfl rfl (j := i) (by omega) (by omega) dc_Ck_settlesPartners_42 ?_
        refine kw_call0 (wr := [ck_c o xc xs xt xa lv, cl_c xc ca cb cd cn, ar_n cI ca 33 fz, ar_n cI cb 33 fs, ar_i cI cd (33 * 8) fl, as_c xa aa ab n t f, ar_n cI aa 8 rs, ar_n cI ab 8 im]) (ws' := [ck_c o xc xs xt xa lv, cl_c xc ca cb cd cn, ar_n cI ca 33 fz, ar_n cI cb 33 fs, ar_i cI cd (33 * 8) fl, as_c xa aa ab n t f, ar_n cI aa 8 rs, ar_n cI ab 8 im, tr_c xt ta tb td ((g + (pt_rl rs i).length) + 1) mk ckd, ar_n cI ta 33 ft, ar_n cI tb 33 (va_up (va_up fc j (fc j + (pt_rl rs i).length)) j ((va_up fc j (fc j + (pt_rl rs i).length)) j + 1)), ar_i cI td 2048 (upd (pt_put fr g (pt_rl rs i)) (g + (pt_rl rs i).length) (nI (rs i)))]) (va_runV (As := [.int (nI j), .int (nI (rs i))]) (rest := []) ⟨hx, hb, hml, hown, hts⟩ (ct_Tr_append l D cI cZ _ xt ta tb td (g + (pt_rl rs i).length) mk ckd ft (va_up fc j (fc j + (pt_rl rs i).length)) (pt_put fr g (pt_rl rs i)) j (nI (rs i)) (by omega) (by have h9 := rl_len rs i; have h8 := hfit0; omega)) (cwV 2 hts (kx_gV wd_645 wd_646 wd_647 wd_7 wd_648) rfl rfl rfl ⟨rfl, yd_Tr_append⟩ ⟨Nat.le_of_ble_eq_true rfl, Nat.le_of_ble_eq_true rfl⟩) (kp_V (q0 := 8) (ci := 5) hP hD hK hN [8, 9, 10, 11] rfl rfl rfl rfl rfl) rfl rfl hl.1 rfl (lv_room (Nat.le_of_ble_eq_true rfl)) dc_Ck_settlesPartners_43 ⟨Nat.le_of_ble_eq_true rfl, Nat.le_of_ble_eq_true rfl⟩) hP hD hS hA [8, 9, 10, 11] [0, 1, 2, 3, 4, 5, 6, 7] [0, 1, 2, 3, 4, 5, 6, 7, 8, 9, 10, 11] rfl rfl rfl (by decide) rfl rfl (fun H locs hP hD hS => ?_)
        have hP : va_P D kc_l [ck_c o xc xs xt xa lv, cl_c xc ca cb cd cn, ar_n cI ca 33 fz, ar_n cI cb 33 fs, ar_i cI cd (33 * 8) fl, as_c xa aa ab n t f, ar_n cI aa 8 rs, ar_n cI ab 8 im, tr_c xt ta tb td (g + (pt_rl rs (i + 1)).length) mk ckd, ar_n cI ta 33 ft, ar_n cI tb 33 (va_up fc j (fc j + (pt_rl rs (i + 1)).length)), ar_i cI td 2048 (pt_put fr g (pt_rl rs (i + 1)))] H := by rw [show pt_rl rs (i + 1) = pt_rl rs i ++ [nI (rs i)] from rfl, len_s, ← put_s, ← cnt_s]; exact hP
        have hD : va_D A [ck_c o xc xs xt xa lv, cl_c xc ca cb cd cn, ar_n cI ca 33 fz, ar_n cI cb 33 fs, ar_i cI cd (33 * 8) fl, as_c xa aa ab n t f, ar_n cI aa 8 rs, ar_n cI ab 8 im, tr_c xt ta tb td (g + (pt_rl rs (i + 1)).length) mk ckd, ar_n cI ta 33 ft, ar_n cI tb 33 (va_up fc j (fc j + (pt_rl rs (i + 1)).length)), ar_i cI td 2048 (pt_put fr g (pt_rl rs (i + 1)))] := by rw [show pt_rl rs (i + 1) = pt_rl rs i ++ [nI (rs i)] from rfl, len_s, ← put_s, ← cnt_s]; exact hD
        refine lv_lload hx hb dc_Ck_settlesPartners_46 (lv_at hl 1 rfl) ?_
        refine lv_aload_n hx hb dc_Ck_settlesPartners_48 rfl (lv_at hl 4 rfl) ?_
        refine va_get (ci := 7) (v := .ref xa) (C := rn_Ck) (T := fd_Ck) (N := 5) hx hb hts in_Ck hown hK hP 0 rfl rfl 3 (by decide) (hts _ wd_579) (fun _ h9 => h9) rfl dc_Ck_settlesPartners_49 ?_
        refine va_getN (ci := 6) (v := .ref aa) (C := rn_As) (T := fd_As) (N := 5) hx hb hts in_As hown hK hP 5 rfl rfl 0 (by decide) (nf_165 hN) (fun _ h9 => h9) rfl dc_Ck_settlesPartners_52 ?_
        refine lv_iload hx hb dc_Ck_settlesPartners_55 (lv_at hl 0 rfl) ?_
        refine ka_nald (t := rs) hx hb hK hP 6 0 rfl rfl (j := i) (by omega) (by omega) dc_Ck_settlesPartners_57 ?_
        refine kr_call1 (va_runSN (As := [.int (nI (rs i))]) (rest := [.long (lN (pt_ru rs i))]) ⟨hx, hb, hml, hown, hts⟩ (ct_Pt_one l D cI cZ _ (rs i) (by have := (hok.2 i (by omega)).1; omega)) ⟨va_cnB 1 hts (kx_gi wd_559) rfl rfl rfl (nw_600 hN) (hts _ wd_1) yd_Pt_one ⟨Nat.le_of_ble_eq_true rfl, Nat.le_of_ble_eq_true rfl⟩, hts _ wd_558, trivial⟩ (kp_S hP hD hK hN [] rfl rfl) rfl rfl hl.1 rfl (lv_room (Nat.le_of_ble_eq_true rfl)) dc_Ck_settlesPartners_58 ⟨Nat.le_of_ble_eq_true rfl, Nat.le_of_ble_eq_true rfl⟩) ?_
        refine kl_lor hx hb dc_Ck_settlesPartners_61 ?_
        refine lv_lstore (lv' := [(4, .long (lN ((pt_ru rs i) ||| (2 ^ (rs i))))), (6, .int (nI i)), (3, .int (nI n)), (2, .int (nI t)), (0, .ref o), (1, .int (nI j))]) hx hb dc_Ck_settlesPartners_62 hl (by decide) rfl (fun ls hl => ?_)
        refine lv_iinc (k := 1) (v := nI (i + 1)) (lv' := [(6, .int (nI (i + 1))), (4, .long (lN ((pt_ru rs i) ||| (2 ^ (rs i))))), (3, .int (nI n)), (2, .int (nI t)), (0, .ref o), (1, .int (nI j))]) hx hb dc_Ck_settlesPartners_64 hl rfl (nI_1 _) (by decide) rfl (fun ls hl => ?_)
        refine lv_goto hx hb dc_Ck_settlesPartners_67 rfl ?_
        exact ih _ _ _ _ (by omega) hP hD hS hl (by omega)
  exact lp_22 _ _ _ _ _ (Nat.lt_succ_self _) hP hD hS hl (by omega)
