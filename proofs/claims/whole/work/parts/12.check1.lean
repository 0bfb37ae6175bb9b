/-! going back: what is ready, what follows -/
/-- the first number from c on, k of them, with a property, or 0 -/
def pt_first (P : Nat → Bool) : Nat → Nat → Nat
  | 0, _ => 0
  | k + 1, c => if P c = true then c else pt_first P k (c + 1)
theorem first_no {P : Nat → Bool} {n c : Nat} (h : c ≤ n) (hp : P c = false) : pt_first P (n + 1 - c) c = pt_first P (n + 1 - (c + 1)) (c + 1) := by
  obtain ⟨k, hk⟩ : ∃ k, n + 1 - c = k + 1 := ⟨n - c, by omega⟩
  have hk2 : n + 1 - (c + 1) = k := by omega
  rw [hk, hk2, pt_first, if_neg (by rw [hp]; decide)]
theorem first_yes {P : Nat → Bool} {n c : Nat} (h : c ≤ n) (hp : P c = true) : pt_first P (n + 1 - c) c = c := by
  obtain ⟨k, hk⟩ : ∃ k, n + 1 - c = k + 1 := ⟨n - c, by omega⟩
  rw [hk, pt_first, if_pos hp]
theorem first_en {P : Nat → Bool} {n c : Nat} (h : n < c) : pt_first P (n + 1 - c) c = 0 := by
  rw [show n + 1 - c = 0 by omega, pt_first]
theorem first_in (P : Nat → Bool) : ∀ k c, pt_first P k c = 0 ∨ (c ≤ pt_first P k c ∧ pt_first P k c < c + k ∧ P (pt_first P k c) = true) := by
  intro k
  induction k with
  | zero => intro c; exact Or.inl rfl
  | succ k ih =>
    intro c
    rw [pt_first]
    split
    · rename_i h; exact Or.inr ⟨Nat.le_refl _, by omega, h⟩
    · rcases ih (c + 1) with h | ⟨h1, h2, h3⟩
      · exact Or.inl h
      · exact Or.inr ⟨by omega, by omega, h3⟩
/-- the first ready clause among those of a set -/
def pt_fr (fs : Nat → Nat) (t f a n : Nat) : Nat := pt_first (fun j => a.testBit j && pt_rdy (fs j) t f) n 1
/-- the clause that is taken next, or 0 -/
def pt_next (fs : Nat → Nat) (lv mk cn t f : Nat) : Nat := if pt_fr fs t f (lv &&& mk) cn = 0 then pt_fr fs t f (nb_d lv mk) cn else pt_fr fs t f (lv &&& mk) cn
theorem next_in (fs : Nat → Nat) (lv mk cn t f : Nat) : pt_next fs lv mk cn t f = 0 ∨ (1 ≤ pt_next fs lv mk cn t f ∧ pt_next fs lv mk cn t f ≤ cn ∧ lv.testBit (pt_next fs lv mk cn t f) = true ∧ pt_rdy (fs (pt_next fs lv mk cn t f)) t f = true) := by
  unfold pt_next
  have h1 := first_in (fun j => (lv &&& mk).testBit j && pt_rdy (fs j) t f) cn 1
  have h2 := first_in (fun j => (nb_d lv mk).testBit j && pt_rdy (fs j) t f) cn 1
  split
  · rcases h2 with h | ⟨a, b, d⟩
    · exact Or.inl h
    · rw [Bool.and_eq_true, nb_d_bit, Bool.and_eq_true] at d
      exact Or.inr ⟨a, by show pt_first _ _ _ ≤ _; omega, d.1.1, d.2⟩
  · rcases h1 with h | ⟨a, b, d⟩
    · exact Or.inl h
    · rw [Bool.and_eq_true, Nat.testBit_and, Bool.and_eq_true] at d
      exact Or.inr ⟨a, by show pt_first _ _ _ ≤ _; omega, d.1.1, d.2⟩
/-- how many variables have no value -/
def pt_free (t : Nat) : Nat := ((List.range 8).map (fun v => if t.testBit v = false ∧ t.testBit (v + 8) = false then 1 else 0)).sum
theorem free_or : ∀ (t b : Nat), b < 16 → t.testBit b = false → t.testBit ((b + 8) % 16) = false → pt_free (t ||| 2 ^ b) + 1 = pt_free t := by
  intro t b hb h1 h2
  unfold pt_free
  simp only [List.range, List.range.loop, List.map_cons, List.map_nil, List.sum_cons, List.sum_nil, Nat.testBit_or, Nat.testBit_two_pow]
  have hc : b = 0 ∨ b = 1 ∨ b = 2 ∨ b = 3 ∨ b = 4 ∨ b = 5 ∨ b = 6 ∨ b = 7 ∨ b = 8 ∨ b = 9 ∨ b = 10 ∨ b = 11 ∨ b = 12 ∨ b = 13 ∨ b = 14 ∨ b = 15 := by omega
  rcases hc with h | h | h | h | h | h | h | h | h | h | h | h | h | h | h | h <;> subst h <;> simp at h1 h2 ⊢ <;> simp [h1, h2] <;> omega
/-- at most one bit, and not none: a bit -/
theorem one_bit {x : Nat} (h0 : ¬ x = 0) (h1 : x &&& (x - 1) = 0) : ∃ b, x = 2 ^ b := by
  obtain ⟨b, hb⟩ := Nat.exists_testBit_of_ne_zero h0
  refine ⟨b, ?_⟩
  apply Nat.eq_of_testBit_eq
  intro i
  rw [Nat.testBit_two_pow]
  by_cases hi : b = i
  · subst hi; rw [hb]; simp
  · rw [decide_eq_false hi]
    cases hx : x.testBit i with
    | false => rfl
    | true =>
      exfalso
      -- the greater of the two stays in x - 1
      have key : ∀ p q, p < q → x.testBit p = true → x.testBit q = true → False := by
        intro p q hpq hp hq
        have hxp : 2 ^ p ≤ x % 2 ^ q := by
          have h3 : (x % 2 ^ q).testBit p = true := by rw [Nat.testBit_mod_two_pow, hp, decide_eq_true hpq]; rfl
          exact Nat.ge_two_pow_of_testBit h3
        have hp0 : 0 < 2 ^ p := Nat.two_pow_pos p
        have h4 : (x - 1).testBit q = true := by
          rw [Nat.testBit_eq_decide_div_mod_eq] at hq ⊢
          have h5 : (x - 1) / 2 ^ q = x / 2 ^ q := by
            have h6 := Nat.div_add_mod x (2 ^ q)
            apply Nat.div_eq_of_lt_le
            · have : x / 2 ^ q * 2 ^ q = 2 ^ q * (x / 2 ^ q) := Nat.mul_comm _ _
              omega
            · have h7 := Nat.mod_lt x (Nat.two_pow_pos q)
              have : (x / 2 ^ q + 1) * 2 ^ q = 2 ^ q * (x / 2 ^ q) + 2 ^ q := by rw [Nat.add_mul, Nat.one_mul, Nat.mul_comm]
              omega
          rw [h5]; exact hq
        have h8 : (x &&& (x - 1)).testBit q = true := by rw [Nat.testBit_and, hq, h4]; rfl
        rw [h1, Nat.zero_testBit] at h8
        exact absurd h8 (by decide)
      rcases Nat.lt_or_gt_of_ne hi with h | h
      · exact key b i h hb hx
      · exact key i b h hx hb
/-- the assignment is in order, and there is room for the reasons to come -/
def pt_cap (n t f : Nat) : Prop := t < 65536 ∧ f = nb_op t ∧ n + pt_free t ≤ 8
theorem op_or {x y : Nat} (hx : x < 65536) (hy : y < 65536) : nb_op (x ||| y) = nb_op x ||| nb_op y := by
  apply Nat.eq_of_testBit_eq
  intro i
  rw [nb_op_bit (Nat.or_lt_two_pow (n := 16) hx hy), Nat.testBit_or (x := nb_op x) (y := nb_op y), nb_op_bit hx, nb_op_bit hy]
  split
  · rw [Nat.testBit_or]
  · split
    · rw [Nat.testBit_or]
    · rfl
theorem cap_step {n t f x : Nat} (h : pt_cap n t f) (hx : x < 65536) (hr : pt_rdy x t f = true) (h0 : ¬ nb_d x f = 0) : n < 8 ∧ nb_d x f < 65536 ∧ pt_cap (n + 1) (t ||| nb_d x f) (f ||| nb_op (nb_d x f)) := by
  obtain ⟨ht, hf, hn⟩ := h
  unfold pt_rdy at hr
  rw [Bool.and_eq_true] at hr
  have hr1 := of_decide_eq_true hr.1
  have hr2 := of_decide_eq_true hr.2
  have hy16 : nb_d x f < 65536 := nb_d_lt (n := 16) hx
  obtain ⟨b, hb⟩ := one_bit h0 hr2
  have hb16 : b < 16 := by
    rw [hb] at hy16
    exact (Nat.pow_lt_pow_iff_right (by decide : 1 < 2)).mp (show 2 ^ b < 2 ^ 16 from hy16)
  have hbt : (nb_d x f).testBit b = true := by rw [hb]; exact Nat.testBit_two_pow_self
  rw [nb_d_bit, Bool.and_eq_true] at hbt
  have h1 : t.testBit b = false := by
    have h3 : (x &&& t).testBit b = false := by rw [hr1]; exact Nat.zero_testBit b
    rw [Nat.testBit_and, hbt.1, Bool.true_and] at h3
    exact h3
  have h2 : t.testBit ((b + 8) % 16) = false := by
    have h3 : f.testBit b = false := by
      have := hbt.2
      cases hfb : f.testBit b with
      | false => rfl
      | true => rw [hfb] at this; exact absurd this (by decide)
    rw [hf, nb_op_bit ht] at h3
    by_cases h8 : b < 8
    · rw [if_pos h8] at h3; rw [Nat.mod_eq_of_lt (by omega)]; exact h3
    · rw [if_neg h8, if_pos hb16] at h3; rw [show (b + 8) % 16 = b - 8 by omega]; exact h3
  have h4 := free_or t b hb16 h1 h2
  refine ⟨by omega, hy16, Nat.or_lt_two_pow (n := 16) ht hy16, ?_, ?_⟩
  · rw [op_or ht hy16, ← hf]
  · rw [hb]; omega
/-- propagating: the conflict or 0, and the assignment behind it -/
def pt_prop (fs : Nat → Nat) (lv mk cn : Nat) : Nat → Nat → Nat → Nat → (Nat → Nat) → (Nat → Nat) → Nat × Nat × Nat × Nat × (Nat → Nat) × (Nat → Nat)
  | 0, n, t, f, rs, im => (0, n, t, f, rs, im)
  | k + 1, n, t, f, rs, im =>
    if pt_next fs lv mk cn t f = 0 then (0, n, t, f, rs, im)
    else if nb_d (fs (pt_next fs lv mk cn t f)) f = 0 then (pt_next fs lv mk cn t f, n, t, f, rs, im)
    else pt_prop fs lv mk cn k (n + 1) (t ||| nb_d (fs (pt_next fs lv mk cn t f)) f) (f ||| nb_op (nb_d (fs (pt_next fs lv mk cn t f)) f)) (va_up rs n (pt_next fs lv mk cn t f)) (va_up im n (nb_d (fs (pt_next fs lv mk cn t f)) f))
/-- what is appended of the reasons from a on, k of them, that are used -/
def pt_exs (rs : Nat → Nat) (u a : Nat) : Nat → List Int32
  | 0 => []
  | k + 1 => pt_exs rs u a k ++ (if u.testBit (rs (a + k)) = true then [nI (rs (a + k))] else [])
/-- a row with a list written into it from place g on -/
def pt_put (fr : Nat → Int32) (g : Nat) (L : List Int32) : Nat → Int32 := fun j => if g ≤ j ∧ j < g + L.length then L.getD (j - g) 0 else fr j
theorem put_0 {fr : Nat → Int32} {g : Nat} : pt_put fr g [] = fr := by
  funext j
  unfold pt_put
  rw [if_neg (by simp)]
theorem put_s {fr : Nat → Int32} {g : Nat} {L : List Int32} {x : Int32} : upd (pt_put fr g L) (g + L.length) x = pt_put fr g (L ++ [x]) := by
  funext j
  unfold upd pt_put
  rw [List.length_append, List.length_singleton]
  by_cases h : j = g + L.length
  · subst h
    rw [if_pos rfl, if_pos (by omega), show g + L.length - g = L.length by omega]
    simp
  · rw [if_neg h]
    by_cases h2 : g ≤ j ∧ j < g + L.length
    · rw [if_pos h2, if_pos (by omega), List.getD_eq_getElem?_getD, List.getD_eq_getElem?_getD, List.getElem?_append_left (by omega)]
    · rw [if_neg h2, if_neg (by omega)]
theorem cnt_s {fc : Nat → Nat} {c : Nat} {L : List Int32} {x : Int32} : va_up (va_up fc c (fc c + L.length)) c (va_up fc c (fc c + L.length) c + 1) = va_up fc c (fc c + (L ++ [x]).length) := by
  rw [va_up_self, bx_uu, List.length_append, List.length_singleton]
  rfl
theorem cnt_0 {fc : Nat → Nat} {c : Nat} : va_up fc c (fc c + ([] : List Int32).length) = fc := by
  funext j
  unfold va_up
  split
  · rename_i h; rw [h]; rfl
  · rfl

theorem dc_Ck_firstReady_0 : decode bc_Ck_firstReady 0 = .ok (.iconst 1, 1) := by decide +kernel
theorem dc_Ck_firstReady_1 : decode bc_Ck_firstReady 1 = .ok (.istore_n 3, 1) := by decide +kernel
theorem dc_Ck_firstReady_2 : decode bc_Ck_firstReady 2 = .ok (.iload_n 3, 1) := by decide +kernel
theorem dc_Ck_firstReady_3 : decode bc_Ck_firstReady 3 = .ok (.aload_n 0, 1) := by decide +kernel
theorem dc_Ck_firstReady_4 : decode bc_Ck_firstReady 4 = .ok (.getfield 9, 3) := by decide +kernel
theorem dc_Ck_firstReady_7 : decode bc_Ck_firstReady 7 = .ok (.getfield 37, 3) := by decide +kernel
theorem dc_Ck_firstReady_10 : decode bc_Ck_firstReady 10 = .ok (.if_icmp .gt (38), 3) := by decide +kernel
theorem dc_Ck_firstReady_13 : decode bc_Ck_firstReady 13 = .ok (.lload_n 1, 1) := by decide +kernel
theorem dc_Ck_firstReady_14 : decode bc_Ck_firstReady 14 = .ok (.iload_n 3, 1) := by decide +kernel
theorem dc_Ck_firstReady_15 : decode bc_Ck_firstReady 15 = .ok (.invokestatic 62, 3) := by decide +kernel
theorem dc_Ck_firstReady_18 : decode bc_Ck_firstReady 18 = .ok (.ifCond .eq (24), 3) := by decide +kernel
theorem dc_Ck_firstReady_21 : decode bc_Ck_firstReady 21 = .ok (.aload_n 0, 1) := by decide +kernel
theorem dc_Ck_firstReady_22 : decode bc_Ck_firstReady 22 = .ok (.getfield 23, 3) := by decide +kernel
theorem dc_Ck_firstReady_25 : decode bc_Ck_firstReady 25 = .ok (.aload_n 0, 1) := by decide +kernel
theorem dc_Ck_firstReady_26 : decode bc_Ck_firstReady 26 = .ok (.getfield 9, 3) := by decide +kernel
theorem dc_Ck_firstReady_29 : decode bc_Ck_firstReady 29 = .ok (.getfield 74, 3) := by decide +kernel
theorem dc_Ck_firstReady_32 : decode bc_Ck_firstReady 32 = .ok (.iload_n 3, 1) := by decide +kernel
theorem dc_Ck_firstReady_33 : decode bc_Ck_firstReady 33 = .ok (.iaload, 1) := by decide +kernel
theorem dc_Ck_firstReady_34 : decode bc_Ck_firstReady 34 = .ok (.invokevirtual 130, 3) := by decide +kernel
theorem dc_Ck_firstReady_37 : decode bc_Ck_firstReady 37 = .ok (.ifCond .eq (5), 3) := by decide +kernel
theorem dc_Ck_firstReady_40 : decode bc_Ck_firstReady 40 = .ok (.iload_n 3, 1) := by decide +kernel
theorem dc_Ck_firstReady_41 : decode bc_Ck_firstReady 41 = .ok (.ireturn, 1) := by decide +kernel
theorem dc_Ck_firstReady_42 : decode bc_Ck_firstReady 42 = .ok (.iinc 3 (1), 3) := by decide +kernel
theorem dc_Ck_firstReady_45 : decode bc_Ck_firstReady 45 = .ok (.goto (-43), 3) := by decide +kernel
theorem dc_Ck_firstReady_48 : decode bc_Ck_firstReady 48 = .ok (.iconst 0, 1) := by decide +kernel
theorem dc_Ck_firstReady_49 : decode bc_Ck_firstReady 49 = .ok (.ireturn, 1) := by decide +kernel
theorem dc_Ck_propagate_0 : decode bc_Ck_propagate 0 = .ok (.iconst 0, 1) := by decide +kernel
theorem dc_Ck_propagate_1 : decode bc_Ck_propagate 1 = .ok (.istore_n 1, 1) := by decide +kernel
theorem dc_Ck_propagate_2 : decode bc_Ck_propagate 2 = .ok (.iload_n 1, 1) := by decide +kernel
theorem dc_Ck_propagate_3 : decode bc_Ck_propagate 3 = .ok (.bipush (8), 2) := by decide +kernel
theorem dc_Ck_propagate_5 : decode bc_Ck_propagate 5 = .ok (.if_icmp .gt (79), 3) := by decide +kernel
theorem dc_Ck_propagate_8 : decode bc_Ck_propagate 8 = .ok (.aload_n 0, 1) := by decide +kernel
theorem dc_Ck_propagate_9 : decode bc_Ck_propagate 9 = .ok (.aload_n 0, 1) := by decide +kernel
theorem dc_Ck_propagate_10 : decode bc_Ck_propagate 10 = .ok (.getfield 33, 3) := by decide +kernel
theorem dc_Ck_propagate_13 : decode bc_Ck_propagate 13 = .ok (.aload_n 0, 1) := by decide +kernel
theorem dc_Ck_propagate_14 : decode bc_Ck_propagate 14 = .ok (.getfield 19, 3) := by decide +kernel
theorem dc_Ck_propagate_17 : decode bc_Ck_propagate 17 = .ok (.getfield 46, 3) := by decide +kernel
theorem dc_Ck_propagate_20 : decode bc_Ck_propagate 20 = .ok (.land, 1) := by decide +kernel
theorem dc_Ck_propagate_21 : decode bc_Ck_propagate 21 = .ok (.invokevirtual 122, 3) := by decide +kernel
theorem dc_Ck_propagate_24 : decode bc_Ck_propagate 24 = .ok (.istore_n 2, 1) := by decide +kernel
theorem dc_Ck_propagate_25 : decode bc_Ck_propagate 25 = .ok (.iload_n 2, 1) := by decide +kernel
theorem dc_Ck_propagate_26 : decode bc_Ck_propagate 26 = .ok (.ifCond .ne (24), 3) := by decide +kernel
theorem dc_Ck_propagate_29 : decode bc_Ck_propagate 29 = .ok (.aload_n 0, 1) := by decide +kernel
theorem dc_Ck_propagate_30 : decode bc_Ck_propagate 30 = .ok (.aload_n 0, 1) := by decide +kernel
theorem dc_Ck_propagate_31 : decode bc_Ck_propagate 31 = .ok (.getfield 33, 3) := by decide +kernel
theorem dc_Ck_propagate_34 : decode bc_Ck_propagate 34 = .ok (.aload_n 0, 1) := by decide +kernel
theorem dc_Ck_propagate_35 : decode bc_Ck_propagate 35 = .ok (.getfield 19, 3) := by decide +kernel
theorem dc_Ck_propagate_38 : decode bc_Ck_propagate 38 = .ok (.getfield 46, 3) := by decide +kernel
theorem dc_Ck_propagate_41 : decode bc_Ck_propagate 41 = .ok (.ldc2_w 60, 3) := by decide +kernel
theorem dc_Ck_propagate_44 : decode bc_Ck_propagate 44 = .ok (.lxor, 1) := by decide +kernel
theorem dc_Ck_propagate_45 : decode bc_Ck_propagate 45 = .ok (.land, 1) := by decide +kernel
theorem dc_Ck_propagate_46 : decode bc_Ck_propagate 46 = .ok (.invokevirtual 122, 3) := by decide +kernel
theorem dc_Ck_propagate_49 : decode bc_Ck_propagate 49 = .ok (.istore_n 2, 1) := by decide +kernel
theorem dc_Ck_propagate_50 : decode bc_Ck_propagate 50 = .ok (.iload_n 2, 1) := by decide +kernel
theorem dc_Ck_propagate_51 : decode bc_Ck_propagate 51 = .ok (.ifCond .ne (5), 3) := by decide +kernel
theorem dc_Ck_propagate_54 : decode bc_Ck_propagate 54 = .ok (.iconst 0, 1) := by decide +kernel
theorem dc_Ck_propagate_55 : decode bc_Ck_propagate 55 = .ok (.ireturn, 1) := by decide +kernel
theorem dc_Ck_propagate_56 : decode bc_Ck_propagate 56 = .ok (.aload_n 0, 1) := by decide +kernel
theorem dc_Ck_propagate_57 : decode bc_Ck_propagate 57 = .ok (.getfield 23, 3) := by decide +kernel
theorem dc_Ck_propagate_60 : decode bc_Ck_propagate 60 = .ok (.aload_n 0, 1) := by decide +kernel
theorem dc_Ck_propagate_61 : decode bc_Ck_propagate 61 = .ok (.getfield 9, 3) := by decide +kernel
theorem dc_Ck_propagate_64 : decode bc_Ck_propagate 64 = .ok (.getfield 74, 3) := by decide +kernel
theorem dc_Ck_propagate_67 : decode bc_Ck_propagate 67 = .ok (.iload_n 2, 1) := by decide +kernel
theorem dc_Ck_propagate_68 : decode bc_Ck_propagate 68 = .ok (.iaload, 1) := by decide +kernel
theorem dc_Ck_propagate_69 : decode bc_Ck_propagate 69 = .ok (.iload_n 2, 1) := by decide +kernel
theorem dc_Ck_propagate_70 : decode bc_Ck_propagate 70 = .ok (.invokevirtual 126, 3) := by decide +kernel
theorem dc_Ck_propagate_73 : decode bc_Ck_propagate 73 = .ok (.ifCond .ne (5), 3) := by decide +kernel
theorem dc_Ck_propagate_76 : decode bc_Ck_propagate 76 = .ok (.iload_n 2, 1) := by decide +kernel
theorem dc_Ck_propagate_77 : decode bc_Ck_propagate 77 = .ok (.ireturn, 1) := by decide +kernel
theorem dc_Ck_propagate_78 : decode bc_Ck_propagate 78 = .ok (.iinc 1 (1), 3) := by decide +kernel
theorem dc_Ck_propagate_81 : decode bc_Ck_propagate 81 = .ok (.goto (-79), 3) := by decide +kernel
theorem dc_Ck_propagate_84 : decode bc_Ck_propagate 84 = .ok (.iconst 0, 1) := by decide +kernel
theorem dc_Ck_propagate_85 : decode bc_Ck_propagate 85 = .ok (.ireturn, 1) := by decide +kernel
theorem dc_Ck_explain_0 : decode bc_Ck_explain 0 = .ok (.aload_n 0, 1) := by decide +kernel
theorem dc_Ck_explain_1 : decode bc_Ck_explain 1 = .ok (.getfield 23, 3) := by decide +kernel
theorem dc_Ck_explain_4 : decode bc_Ck_explain 4 = .ok (.iload_n 3, 1) := by decide +kernel
theorem dc_Ck_explain_5 : decode bc_Ck_explain 5 = .ok (.aload_n 0, 1) := by decide +kernel
theorem dc_Ck_explain_6 : decode bc_Ck_explain 6 = .ok (.getfield 9, 3) := by decide +kernel
theorem dc_Ck_explain_9 : decode bc_Ck_explain 9 = .ok (.getfield 74, 3) := by decide +kernel
theorem dc_Ck_explain_12 : decode bc_Ck_explain 12 = .ok (.invokevirtual 118, 3) := by decide +kernel
theorem dc_Ck_explain_15 : decode bc_Ck_explain 15 = .ok (.lstore 4, 2) := by decide +kernel
theorem dc_Ck_explain_17 : decode bc_Ck_explain 17 = .ok (.iload_n 2, 1) := by decide +kernel
theorem dc_Ck_explain_18 : decode bc_Ck_explain 18 = .ok (.istore 6, 2) := by decide +kernel
theorem dc_Ck_explain_20 : decode bc_Ck_explain 20 = .ok (.iload 6, 2) := by decide +kernel
theorem dc_Ck_explain_22 : decode bc_Ck_explain 22 = .ok (.aload_n 0, 1) := by decide +kernel
theorem dc_Ck_explain_23 : decode bc_Ck_explain 23 = .ok (.getfield 23, 3) := by decide +kernel
theorem dc_Ck_explain_26 : decode bc_Ck_explain 26 = .ok (.getfield 104, 3) := by decide +kernel
theorem dc_Ck_explain_29 : decode bc_Ck_explain 29 = .ok (.if_icmp .ge (45), 3) := by decide +kernel
theorem dc_Ck_explain_32 : decode bc_Ck_explain 32 = .ok (.lload 4, 2) := by decide +kernel
theorem dc_Ck_explain_34 : decode bc_Ck_explain 34 = .ok (.aload_n 0, 1) := by decide +kernel
theorem dc_Ck_explain_35 : decode bc_Ck_explain 35 = .ok (.getfield 23, 3) := by decide +kernel
theorem dc_Ck_explain_38 : decode bc_Ck_explain 38 = .ok (.getfield 105, 3) := by decide +kernel
theorem dc_Ck_explain_41 : decode bc_Ck_explain 41 = .ok (.iload 6, 2) := by decide +kernel
theorem dc_Ck_explain_43 : decode bc_Ck_explain 43 = .ok (.iaload, 1) := by decide +kernel
theorem dc_Ck_explain_44 : decode bc_Ck_explain 44 = .ok (.invokestatic 62, 3) := by decide +kernel
theorem dc_Ck_explain_47 : decode bc_Ck_explain 47 = .ok (.ifCond .eq (21), 3) := by decide +kernel
theorem dc_Ck_explain_50 : decode bc_Ck_explain 50 = .ok (.aload_n 0, 1) := by decide +kernel
theorem dc_Ck_explain_51 : decode bc_Ck_explain 51 = .ok (.getfield 19, 3) := by decide +kernel
theorem dc_Ck_explain_54 : decode bc_Ck_explain 54 = .ok (.iload_n 1, 1) := by decide +kernel
theorem dc_Ck_explain_55 : decode bc_Ck_explain 55 = .ok (.aload_n 0, 1) := by decide +kernel
theorem dc_Ck_explain_56 : decode bc_Ck_explain 56 = .ok (.getfield 23, 3) := by decide +kernel
theorem dc_Ck_explain_59 : decode bc_Ck_explain 59 = .ok (.getfield 105, 3) := by decide +kernel
theorem dc_Ck_explain_62 : decode bc_Ck_explain 62 = .ok (.iload 6, 2) := by decide +kernel
theorem dc_Ck_explain_64 : decode bc_Ck_explain 64 = .ok (.iaload, 1) := by decide +kernel
theorem dc_Ck_explain_65 : decode bc_Ck_explain 65 = .ok (.invokevirtual 108, 3) := by decide +kernel
theorem dc_Ck_explain_68 : decode bc_Ck_explain 68 = .ok (.iinc 6 (1), 3) := by decide +kernel
theorem dc_Ck_explain_71 : decode bc_Ck_explain 71 = .ok (.goto (-51), 3) := by decide +kernel
theorem dc_Ck_explain_74 : decode bc_Ck_explain 74 = .ok (.aload_n 0, 1) := by decide +kernel
theorem dc_Ck_explain_75 : decode bc_Ck_explain 75 = .ok (.getfield 19, 3) := by decide +kernel
theorem dc_Ck_explain_78 : decode bc_Ck_explain 78 = .ok (.iload_n 1, 1) := by decide +kernel
theorem dc_Ck_explain_79 : decode bc_Ck_explain 79 = .ok (.iload_n 3, 1) := by decide +kernel
theorem dc_Ck_explain_80 : decode bc_Ck_explain 80 = .ok (.invokevirtual 108, 3) := by decide +kernel
theorem dc_Ck_explain_83 : decode bc_Ck_explain 83 = .ok (.lload 4, 2) := by decide +kernel
theorem dc_Ck_explain_85 : decode bc_Ck_explain 85 = .ok (.lreturn, 1) := by decide +kernel
set_option maxHeartbeats 4000000 in
set_option maxRecDepth 100000 in
theorem ct_Ck_firstReady (l : Launch) (D : va_G) (cI cZ : ClassId) (sz : Nat) (o : Nat) (xc : Nat) (xs : Nat) (xt : Nat) (xa : Nat) (lv : Nat) (ca : Nat) (cb : Nat) (cd : Nat) (cn : Nat) (fs : Nat → Nat) (aa : Nat) (ab : Nat) (n : Nat) (t : Nat) (f : Nat) (a : Nat) (hcn : cn ≤ 32) (h16 : ∀ j, fs j < 65536) (ha : a < 2 ^ 62) : Met l yn_Ck_firstReady (Cond.code yn_Ck_firstReady bc_Ck_firstReady 4 (some .int) :: kx_all) ({ frames := 1, cells := 0, slots := 0, locals := 22 } : Room) (kp [.ref o, .long (lN a)] D cI cZ [ck_c o xc xs xt xa lv, cl_c xc ca cb cd cn, ar_n cI cb 33 fs, as_c xa aa ab n t f] sz) (kr_q (some (.int (nI (pt_fr fs t f a cn))))) 0 0 (fun _ => False) := by
  refine kx_met (by decide) (Nat.le_of_ble_eq_true rfl) ?_
  intro p e s m below meth c ls hx hb hr hml hts hown hlocks hin hsz hP hK hD hN hl
  have hown : s.vm.findClass rn_Ck = some m.cls := hown
  have hl : lv_has ls 4 [(0, .ref o), (1, .long (lN a))] := hl
  refine lv_iconst (v := nI 1) hx hb dc_Ck_firstReady_0 (by decide +kernel) ?_
  refine lv_istore_n (lv' := [(3, .int (nI 1)), (0, .ref o), (1, .long (lN a))]) hx hb dc_Ck_firstReady_1 rfl hl (by decide) rfl (fun ls hl => ?_)
  have lp_2 : ∀ (K : Nat) (i : Nat) (ls : Array Slot), cn + 1 - i < K → lv_has ls 4 [(3, .int (nI i)), (0, .ref o), (1, .long (lN a))] → (pt_first (fun j => a.testBit j && pt_rdy (fs j) t f) (cn + 1 - i) i = pt_fr fs t f a cn) → (1 ≤ i ∧ i ≤ cn + 1) → W p l e ({ frames := 1, cells := 0, slots := 0, locals := 22 } : Room) s m ([.ref o, .long (lN a)] : List Value).toArray below meth c s.heap [] 0 0 (MQ below (kr_q (some (.int (nI (pt_fr fs t f a cn))))) ([.ref o, .long (lN a)] : List Value).toArray s 0 0 (fun _ => False)) (F0 m 2 ls []) := by
    intro K
    induction K with
    | zero =>
      intro i ls hk
      exact absurd hk (Nat.not_lt_zero _)
    | succ K ih =>
      intro i ls hk hl h1 h2
      refine lv_iload_n hx hb dc_Ck_firstReady_2 rfl (lv_at hl 0 rfl) ?_
      refine lv_aload_n hx hb dc_Ck_firstReady_3 rfl (lv_at hl 1 rfl) ?_
      refine va_get (ci := 7) (v := .ref xc) (C := rn_Ck) (T := fd_Ck) (N := 5) hx hb hts in_Ck hown hK hP 0 rfl rfl 0 (by decide) (hts _ wd_576) (fun _ h9 => h9) rfl dc_Ck_firstReady_4 ?_
      refine va_getN (ci := 2) (v := .int (nI cn)) (C := rn_Cl) (T := fd_Cl) (N := 4) hx hb hts in_Cl hown hK hP 1 rfl rfl 3 (by decide) (nf_74 hN) (fun _ h9 => h9) rfl dc_Ck_firstReady_7 ?_
      refine kn_icmp_gt hx hb (by omega) (by omega) dc_Ck_firstReady_10 rfl (fun hc10 => ?_) (fun hc10 => ?_)
      · refine lv_iconst (v := nI 0) hx hb dc_Ck_firstReady_48 (by decide +kernel) ?_
        exact kr_iret hx hb hr hlocks dc_Ck_firstReady_49 (by rw [← h1, first_en (by omega)])
      · refine lv_lload_n hx hb dc_Ck_firstReady_13 rfl (lv_at hl 2 rfl) ?_
        refine lv_iload_n hx hb dc_Ck_firstReady_14 rfl (lv_at hl 0 rfl) ?_
        refine kr_call1 (va_runSN (As := [.long (lN a), .int (nI i)]) (rest := []) ⟨hx, hb, hml, hown, hts⟩ (ct_Pt_contains l D cI cZ _ a i (ha) (by omega)) ⟨va_cnB 2 hts (kx_gi wd_262) rfl rfl rfl (nw_602 hN) (hts _ wd_1) yd_Pt_contains ⟨Nat.le_of_ble_eq_true rfl, Nat.le_of_ble_eq_true rfl⟩, hts _ wd_261, trivial⟩ (kp_S hP hD hK hN [] rfl rfl) rfl rfl hl.1 rfl (lv_room (Nat.le_of_ble_eq_true rfl)) dc_Ck_firstReady_15 ⟨Nat.le_of_ble_eq_true rfl, Nat.le_of_ble_eq_true rfl⟩) ?_
        refine kb_if_eq hx hb dc_Ck_firstReady_18 rfl (fun hc18 => ?_) (fun hc18 => ?_)
        · refine lv_iinc (k := 0) (v := nI (i + 1)) (lv' := [(3, .int (nI (i + 1))), (0, .ref o), (1, .long (lN a))]) hx hb dc_Ck_firstReady_42 hl rfl (nI_1 _) (by decide) rfl (fun ls hl => ?_)
          refine lv_goto hx hb dc_Ck_firstReady_45 rfl ?_
          exact ih _ _ (by omega) hl (by rw [← h1]; exact (first_no (by omega) (by simp [hc18])).symm) (⟨by omega, by omega⟩)
        · refine lv_aload_n hx hb dc_Ck_firstReady_21 rfl (lv_at hl 1 rfl) ?_
          refine va_get (ci := 7) (v := .ref xa) (C := rn_Ck) (T := fd_Ck) (N := 5) hx hb hts in_Ck hown hK hP 0 rfl rfl 3 (by decide) (hts _ wd_579) (fun _ h9 => h9) rfl dc_Ck_firstReady_22 ?_
          refine lv_aload_n hx hb dc_Ck_firstReady_25 rfl (lv_at hl 1 rfl) ?_
          refine va_get (ci := 7) (v := .ref xc) (C := rn_Ck) (T := fd_Ck) (N := 5) hx hb hts in_Ck hown hK hP 0 rfl rfl 0 (by decide) (hts _ wd_576) (fun _ h9 => h9) rfl dc_Ck_firstReady_26 ?_
          refine va_getN (ci := 2) (v := .ref cb) (C := rn_Cl) (T := fd_Cl) (N := 4) hx hb hts in_Cl hown hK hP 1 rfl rfl 1 (by decide) (nf_70 hN) (fun _ h9 => h9) rfl dc_Ck_firstReady_29 ?_
          refine lv_iload_n hx hb dc_Ck_firstReady_32 rfl (lv_at hl 0 rfl) ?_
          refine ka_nald (t := fs) hx hb hK hP 2 0 rfl rfl (j := i) (by omega) (by omega) dc_Ck_firstReady_33 ?_
          refine kr_call1 (va_runV (As := [.int (nI (fs i))]) (rest := []) ⟨hx, hb, hml, hown, hts⟩ (ct_As_isReady l D cI cZ _ xa aa ab n t f (fs i) (h16 _)) (cwV 1 hts (kx_gV wd_628 wd_629 wd_630 wd_8 wd_631) rfl rfl rfl ⟨rfl, yd_As_isReady⟩ ⟨Nat.le_of_ble_eq_true rfl, Nat.le_of_ble_eq_true rfl⟩) (kp_V (q0 := 3) (ci := 6) hP hD hK hN [3] rfl rfl rfl rfl rfl) rfl rfl hl.1 rfl (lv_room (Nat.le_of_ble_eq_true rfl)) dc_Ck_firstReady_34 ⟨Nat.le_of_ble_eq_true rfl, Nat.le_of_ble_eq_true rfl⟩) ?_
          refine kb_if_eq hx hb dc_Ck_firstReady_37 rfl (fun hc37 => ?_) (fun hc37 => ?_)
          · refine lv_iinc (k := 0) (v := nI (i + 1)) (lv' := [(3, .int (nI (i + 1))), (0, .ref o), (1, .long (lN a))]) hx hb dc_Ck_firstReady_42 hl rfl (nI_1 _) (by decide) rfl (fun ls hl => ?_)
            refine lv_goto hx hb dc_Ck_firstReady_45 rfl ?_
            exact ih _ _ (by omega) hl (by rw [← h1]; exact (first_no (by omega) (by simp [hc37])).symm) (⟨by omega, by omega⟩)
          · refine lv_iload_n hx hb dc_Ck_firstReady_40 rfl (lv_at hl 0 rfl) ?_
            exact kr_iret hx hb hr hlocks dc_Ck_firstReady_41 (by rw [← h1, first_yes (by omega) (by simp [hc18, hc37])])
  exact lp_2 _ _ _ (Nat.lt_succ_self _) hl (rfl) (⟨by omega, by omega⟩)

set_option maxHeartbeats 4000000 in
set_option maxRecDepth 100000 in
theorem ct_Ck_propagate (l : Launch) (D : va_G) (cI cZ : ClassId) (sz : Nat) (o : Nat) (xc : Nat) (xs : Nat) (xt : Nat) (xa : Nat) (lv : Nat) (ca : Nat) (cb : Nat) (cd : Nat) (cn : Nat) (fs : Nat → Nat) (aa : Nat) (ab : Nat) (n : Nat) (t : Nat) (f : Nat) (rs : Nat → Nat) (im : Nat → Nat) (ta : Nat) (tb : Nat) (td : Nat) (g : Nat) (mk : Nat) (ckd : Bool) (hcn : cn ≤ 32) (h16 : ∀ j, fs j < 65536) (hlv : lv < 2 ^ 62) (hcap : pt_cap n t f) : Met l yn_Ck_propagate (Cond.code yn_Ck_propagate bc_Ck_propagate 3 (some .int) :: kx_all) ({ frames := 2, cells := 0, slots := 0, locals := 45 } : Room) (kp [.ref o] D cI cZ [ck_c o xc xs xt xa lv, cl_c xc ca cb cd cn, ar_n cI cb 33 fs, as_c xa aa ab n t f, ar_n cI aa 8 rs, ar_n cI ab 8 im, tr_c xt ta tb td g mk ckd] sz) (kw_q (some (.int (nI ((pt_prop fs lv mk cn 9 n t f rs im).1)))) D kc_l [ck_c o xc xs xt xa lv, cl_c xc ca cb cd cn, ar_n cI cb 33 fs, as_c xa aa ab ((pt_prop fs lv mk cn 9 n t f rs im).2.1) ((pt_prop fs lv mk cn 9 n t f rs im).2.2.1) ((pt_prop fs lv mk cn 9 n t f rs im).2.2.2.1), ar_n cI aa 8 ((pt_prop fs lv mk cn 9 n t f rs im).2.2.2.2.1), ar_n cI ab 8 ((pt_prop fs lv mk cn 9 n t f rs im).2.2.2.2.2), tr_c xt ta tb td g mk ckd] (va_A [ck_c o xc xs xt xa lv, cl_c xc ca cb cd cn, ar_n cI cb 33 fs, as_c xa aa ab n t f, ar_n cI aa 8 rs, ar_n cI ab 8 im, tr_c xt ta tb td g mk ckd] sz)) 0 0 (va_A [ck_c o xc xs xt xa lv, cl_c xc ca cb cd cn, ar_n cI cb 33 fs, as_c xa aa ab n t f, ar_n cI aa 8 rs, ar_n cI ab 8 im, tr_c xt ta tb td g mk ckd] sz) := by
  refine kx_metW (by decide) (Nat.le_of_ble_eq_true rfl) ?_
  intro p e s m below meth c ls A hx hb hr hml hts hown hlocks hin hA hP hK hD hN hl hS
  have hown : s.vm.findClass rn_Ck = some m.cls := hown
  have hl : lv_has ls 3 [(0, .ref o)] := hl
  refine lv_iconst (v := nI 0) hx hb dc_Ck_propagate_0 (by decide +kernel) ?_
  refine lv_istore_n (lv' := [(1, .int (nI 0)), (0, .ref o)]) hx hb dc_Ck_propagate_1 rfl hl (by decide) rfl (fun ls hl => ?_)
  have lp_2 : ∀ (K : Nat) (k : Nat) (i : Nat) (u : Nat) (v : Nat) (rk : Nat → Nat) (ik : Nat → Nat) (H : Heap) (locs : List Loc) (ls : Array Slot), 9 - k < K → va_P D kc_l [ck_c o xc xs xt xa lv, cl_c xc ca cb cd cn, ar_n cI cb 33 fs, as_c xa aa ab i u v, ar_n cI aa 8 rk, ar_n cI ab 8 ik, tr_c xt ta tb td g mk ckd] H → va_D A [ck_c o xc xs xt xa lv, cl_c xc ca cb cd cn, ar_n cI cb 33 fs, as_c xa aa ab i u v, ar_n cI aa 8 rk, ar_n cI ab 8 ik, tr_c xt ta tb td g mk ckd] → va_S A s.heap H locs → lv_has ls 3 [(1, .int (nI k)), (0, .ref o)] → (pt_prop fs lv mk cn (9 - k) i u v rk ik = pt_prop fs lv mk cn 9 n t f rs im) → (k ≤ 9) → (pt_cap i u v) → W p l e ({ frames := 2, cells := 0, slots := 0, locals := 45 } : Room) s m ([.ref o] : List Value).toArray below meth c H locs 0 0 (MQ below (kw_q (some (.int (nI ((pt_prop fs lv mk cn 9 n t f rs im).1)))) D kc_l [ck_c o xc xs xt xa lv, cl_c xc ca cb cd cn, ar_n cI cb 33 fs, as_c xa aa ab ((pt_prop fs lv mk cn 9 n t f rs im).2.1) ((pt_prop fs lv mk cn 9 n t f rs im).2.2.1) ((pt_prop fs lv mk cn 9 n t f rs im).2.2.2.1), ar_n cI aa 8 ((pt_prop fs lv mk cn 9 n t f rs im).2.2.2.2.1), ar_n cI ab 8 ((pt_prop fs lv mk cn 9 n t f rs im).2.2.2.2.2), tr_c xt ta tb td g mk ckd] A) ([.ref o] : List Value).toArray s 0 0 A) (F0 m 2 ls []) := by
    intro K
    induction K with
    | zero =>
      intro k i u v rk ik H locs ls hk
      exact absurd hk (Nat.not_lt_zero _)
    | succ K ih =>
      intro k i u v rk ik H locs ls hk hP hD hS hl h1 h2 h3
      have hb1 : pt_fr fs u v (lv &&& mk) cn < 64 := by
        rcases first_in _ cn 1 with h9 | ⟨-, h9, -⟩
        · exact Nat.lt_of_le_of_lt (Nat.le_of_eq h9) (by decide)
        · exact Nat.lt_of_lt_of_le h9 (by omega)
      have hb2 : pt_fr fs u v (nb_d lv mk) cn < 64 := by
        rcases first_in _ cn 1 with h9 | ⟨-, h9, -⟩
        · exact Nat.lt_of_le_of_lt (Nat.le_of_eq h9) (by decide)
        · exact Nat.lt_of_lt_of_le h9 (by omega)
      refine lv_iload_n hx hb dc_Ck_propagate_2 rfl (lv_at hl 0 rfl) ?_
      refine lv_bipush (v := nI 8) hx hb dc_Ck_propagate_3 (by decide +kernel) ?_
      refine kn_icmp_gt hx hb (by omega) (by omega) dc_Ck_propagate_5 rfl (fun hc5 => ?_) (fun hc5 => ?_)
      · refine lv_iconst (v := nI 0) hx hb dc_Ck_propagate_84 (by decide +kernel) ?_
        exact kw_iret hx hb hr hlocks hP hD hS dc_Ck_propagate_85 (by rw [← h1, show 9 - k = 0 by omega, pt_prop]) (by rw [← h1, show 9 - k = 0 by omega, pt_prop])
      · refine lv_aload_n hx hb dc_Ck_propagate_8 rfl (lv_at hl 1 rfl) ?_
        refine lv_aload_n hx hb dc_Ck_propagate_9 rfl (lv_at hl 1 rfl) ?_
        refine va_get (ci := 7) (v := .long (lN lv)) (C := rn_Ck) (T := fd_Ck) (N := 5) hx hb hts in_Ck hown hK hP 0 rfl rfl 4 (by decide) (hts _ wd_580) (fun _ h9 => h9) rfl dc_Ck_propagate_10 ?_
        refine lv_aload_n hx hb dc_Ck_propagate_13 rfl (lv_at hl 1 rfl) ?_
        refine va_get (ci := 7) (v := .ref xt) (C := rn_Ck) (T := fd_Ck) (N := 5) hx hb hts in_Ck hown hK hP 0 rfl rfl 2 (by decide) (hts _ wd_578) (fun _ h9 => h9) rfl dc_Ck_propagate_14 ?_
        refine va_getN (ci := 5) (v := .long (lN mk)) (C := rn_Tr) (T := fd_Tr) (N := 6) hx hb hts in_Tr hown hK hP 6 rfl rfl 4 (by decide) (nf_140 hN) (fun _ h9 => h9) rfl dc_Ck_propagate_17 ?_
        refine kl_land hx hb dc_Ck_propagate_20 ?_
        refine kr_call1 (va_runV (As := [.long (lN (lv &&& mk))]) (rest := []) ⟨hx, hb, hml, hown, hts⟩ (ct_Ck_firstReady l D cI cZ _ o xc xs xt xa lv ca cb cd cn fs aa ab i u v (lv &&& mk) (by omega) (h16) (Nat.lt_of_le_of_lt Nat.and_le_left hlv)) (cwV 1 hts (kx_gV wd_624 wd_626 (kx_sel (q := (yn_Ck_firstReady, 5)) (List.mem_append_left _ (List.mem_of_getElem? (i := 5) rfl))) wd_20 wd_627) rfl rfl rfl ⟨rfl, yd_Ck_firstReady⟩ ⟨Nat.le_of_ble_eq_true rfl, Nat.le_of_ble_eq_true rfl⟩) (kp_V (q0 := 0) (ci := 7) hP hD hK hN [0, 1, 2, 3] rfl rfl rfl rfl rfl) rfl rfl hl.1 rfl (lv_room (Nat.le_of_ble_eq_true rfl)) dc_Ck_propagate_21 ⟨Nat.le_of_ble_eq_true rfl, Nat.le_of_ble_eq_true rfl⟩) ?_
        refine lv_istore_n (lv' := [(2, .int (nI (pt_fr fs u v (lv &&& mk) cn))), (1, .int (nI k)), (0, .ref o)]) hx hb dc_Ck_propagate_24 rfl hl (by decide) rfl (fun ls hl => ?_)
        refine lv_iload_n hx hb dc_Ck_propagate_25 rfl (lv_at hl 0 rfl) ?_
        refine kn_if_ne hx hb (Nat.lt_trans hb1 (by decide)) dc_Ck_propagate_26 rfl (fun hc26 => ?_) (fun hc26 => ?_)
        · have hnx : pt_next fs lv mk cn u v = pt_fr fs u v (lv &&& mk) cn := by rw [pt_next, if_neg hc26]
          rw [← hnx] at hl
          have hni := next_in fs lv mk cn u v
          generalize hce : pt_next fs lv mk cn u v = ce at hl hni
          refine lv_iload_n hx hb dc_Ck_propagate_50 rfl (lv_at hl 0 rfl) ?_
          refine kn_if_ne hx hb (by omega) dc_Ck_propagate_51 rfl (fun hc51 => ?_) (fun hc51 => ?_)
          · have hce0 : ¬ ce = 0 := hc51
            obtain ⟨hce1, hce2, hce3, hce4⟩ := hni.resolve_left hce0
            refine lv_aload_n hx hb dc_Ck_propagate_56 rfl (lv_at hl 2 rfl) ?_
            refine va_get (ci := 7) (v := .ref xa) (C := rn_Ck) (T := fd_Ck) (N := 5) hx hb hts in_Ck hown hK hP 0 rfl rfl 3 (by decide) (hts _ wd_579) (fun _ h9 => h9) rfl dc_Ck_propagate_57 ?_
            refine lv_aload_n hx hb dc_Ck_propagate_60 rfl (lv_at hl 2 rfl) ?_
            refine va_get (ci := 7) (v := .ref xc) (C := rn_Ck) (T := fd_Ck) (N := 5) hx hb hts in_Ck hown hK hP 0 rfl rfl 0 (by decide) (hts _ wd_576) (fun _ h9 => h9) rfl dc_Ck_propagate_61 ?_
            refine va_getN (ci := 2) (v := .ref cb) (C := rn_Cl) (T := fd_Cl) (N := 4) hx hb hts in_Cl hown hK hP 1 rfl rfl 1 (by decide) (nf_70 hN) (fun _ h9 => h9) rfl dc_Ck_propagate_64 ?_
            refine lv_iload_n hx hb dc_Ck_propagate_67 rfl (lv_at hl 0 rfl) ?_
            refine ka_nald (t := fs) hx hb hK hP 2 0 rfl rfl (j := ce) (by omega) (by omega) dc_Ck_propagate_68 ?_
            refine lv_iload_n hx hb dc_Ck_propagate_69 rfl (lv_at hl 0 rfl) ?_
            by_cases hy0 : nb_d (fs ce) v = 0
            · refine kr_call1 (va_runV (As := [.int (nI (fs ce)), .int (nI ce)]) (rest := []) ⟨hx, hb, hml, hown, hts⟩ (ct_As_follow_no l D cI cZ _ xa aa ab i u v (fs ce) ce (h16 _) (hy0)) (cwV 2 hts (kx_gV wd_632 wd_633 wd_634 wd_8 wd_635) rfl rfl rfl ⟨rfl, yd_As_follow⟩ ⟨Nat.le_of_ble_eq_true rfl, Nat.le_of_ble_eq_true rfl⟩) (kp_V (q0 := 3) (ci := 6) hP hD hK hN [3] rfl rfl rfl rfl rfl) rfl rfl hl.1 rfl (lv_room (Nat.le_of_ble_eq_true rfl)) dc_Ck_propagate_70 ⟨Nat.le_of_ble_eq_true rfl, Nat.le_of_ble_eq_true rfl⟩) ?_
              refine kb_if_ne hx hb dc_Ck_propagate_73 rfl (fun hc73 => ?_) (fun hc73 => ?_)
              · exact absurd hc73 (by decide)
              · refine lv_iload_n hx hb dc_Ck_propagate_76 rfl (lv_at hl 0 rfl) ?_
                exact kw_iret hx hb hr hlocks hP hD hS dc_Ck_propagate_77 (by rw [← h1, show 9 - k = (9 - (k + 1)) + 1 by omega, pt_prop, hce, if_neg hce0, if_pos hy0]) (by rw [← h1, show 9 - k = (9 - (k + 1)) + 1 by omega, pt_prop, hce, if_neg hce0, if_pos hy0])
            · obtain ⟨hn8, hy16, hcap2⟩ := cap_step h3 (h16 ce) hce4 hy0
              refine kw_call1 (wr := [ck_c o xc xs xt xa lv, cl_c xc ca cb cd cn, ar_n cI cb 33 fs, tr_c xt ta tb td g mk ckd]) (ws' := [ck_c o xc xs xt xa lv, cl_c xc ca cb cd cn, ar_n cI cb 33 fs, as_c xa aa ab (i + 1) (u ||| nb_d (fs ce) v) (v ||| nb_op (nb_d (fs ce) v)), ar_n cI aa 8 (va_up rk i ce), ar_n cI ab 8 (va_up ik i (nb_d (fs ce) v)), tr_c xt ta tb td g mk ckd]) (va_runV (As := [.int (nI (fs ce)), .int (nI ce)]) (rest := []) ⟨hx, hb, hml, hown, hts⟩ (ct_As_follow l D cI cZ _ xa aa ab i u v rk ik (fs ce) ce (h16 _) (hy0) (hn8)) (cwV 2 hts (kx_gV wd_632 wd_633 wd_634 wd_8 wd_635) rfl rfl rfl ⟨rfl, yd_As_follow⟩ ⟨Nat.le_of_ble_eq_true rfl, Nat.le_of_ble_eq_true rfl⟩) (kp_V (q0 := 3) (ci := 6) hP hD hK hN [3, 4, 5] rfl rfl rfl rfl rfl) rfl rfl hl.1 rfl (lv_room (Nat.le_of_ble_eq_true rfl)) dc_Ck_propagate_70 ⟨Nat.le_of_ble_eq_true rfl, Nat.le_of_ble_eq_true rfl⟩) hP hD hS hA [3, 4, 5] [0, 1, 2, 6] [0, 1, 2, 4, 5, 6, 3] rfl rfl rfl (by decide) rfl rfl (fun H locs hP hD hS => ?_)
              refine kb_if_ne hx hb dc_Ck_propagate_73 rfl (fun hc73 => ?_) (fun hc73 => ?_)
              · refine lv_iinc (k := 1) (v := nI (k + 1)) (lv' := [(1, .int (nI (k + 1))), (2, .int (nI ce)), (0, .ref o)]) hx hb dc_Ck_propagate_78 hl rfl (nI_1 _) (by decide) rfl (fun ls hl => ?_)
                refine lv_goto hx hb dc_Ck_propagate_81 rfl ?_
                have hl := lv_sub (l' := [(1, .int (nI (k + 1))), (0, .ref o)]) hl [0, 2] rfl
                exact ih _ _ _ _ _ _ _ _ _ (by omega) hP hD hS hl (by rw [← h1, show 9 - k = (9 - (k + 1)) + 1 by omega, pt_prop, hce, if_neg hce0, if_neg hy0]) (by omega) (hcap2)
              · exact absurd hc73 (by decide)
          · refine lv_iconst (v := nI 0) hx hb dc_Ck_propagate_54 (by decide +kernel) ?_
            exact kw_iret hx hb hr hlocks hP hD hS dc_Ck_propagate_55 (by rw [← h1, show 9 - k = (9 - (k + 1)) + 1 by omega, pt_prop, hce, if_pos hc51]) (by rw [← h1, show 9 - k = (9 - (k + 1)) + 1 by omega, pt_prop, hce, if_pos hc51])
        · refine lv_aload_n hx hb dc_Ck_propagate_29 rfl (lv_at hl 2 rfl) ?_
          refine lv_aload_n hx hb dc_Ck_propagate_30 rfl (lv_at hl 2 rfl) ?_
          refine va_get (ci := 7) (v := .long (lN lv)) (C := rn_Ck) (T := fd_Ck) (N := 5) hx hb hts in_Ck hown hK hP 0 rfl rfl 4 (by decide) (hts _ wd_580) (fun _ h9 => h9) rfl dc_Ck_propagate_31 ?_
          refine lv_aload_n hx hb dc_Ck_propagate_34 rfl (lv_at hl 2 rfl) ?_
          refine va_get (ci := 7) (v := .ref xt) (C := rn_Ck) (T := fd_Ck) (N := 5) hx hb hts in_Ck hown hK hP 0 rfl rfl 2 (by decide) (hts _ wd_578) (fun _ h9 => h9) rfl dc_Ck_propagate_35 ?_
          refine va_getN (ci := 5) (v := .long (lN mk)) (C := rn_Tr) (T := fd_Tr) (N := 6) hx hb hts in_Tr hown hK hP 6 rfl rfl 4 (by decide) (nf_140 hN) (fun _ h9 => h9) rfl dc_Ck_propagate_38 ?_
          refine kl_ldc2 (y := (-1)) hx hb hown (hts _ wd_601) dc_Ck_propagate_41 (by decide +kernel) ?_
          refine lv_lxor hx hb dc_Ck_propagate_44 ?_
          refine kl_lnot hx hb dc_Ck_propagate_45 ?_
          refine kr_call1 (va_runV (As := [.long (lN (nb_d lv mk))]) (rest := []) ⟨hx, hb, hml, hown, hts⟩ (ct_Ck_firstReady l D cI cZ _ o xc xs xt xa lv ca cb cd cn fs aa ab i u v (nb_d lv mk) (by omega) (h16) (nb_d_lt hlv)) (cwV 1 hts (kx_gV wd_624 wd_626 (kx_sel (q := (yn_Ck_firstReady, 5)) (List.mem_append_left _ (List.mem_of_getElem? (i := 5) rfl))) wd_20 wd_627) rfl rfl rfl ⟨rfl, yd_Ck_firstReady⟩ ⟨Nat.le_of_ble_eq_true rfl, Nat.le_of_ble_eq_true rfl⟩) (kp_V (q0 := 0) (ci := 7) hP hD hK hN [0, 1, 2, 3] rfl rfl rfl rfl rfl) rfl rfl hl.1 rfl (lv_room (Nat.le_of_ble_eq_true rfl)) dc_Ck_propagate_46 ⟨Nat.le_of_ble_eq_true rfl, Nat.le_of_ble_eq_true rfl⟩) ?_
          refine lv_istore_n (lv' := [(2, .int (nI (pt_fr fs u v (nb_d lv mk) cn))), (1, .int (nI k)), (0, .ref o)]) hx hb dc_Ck_propagate_49 rfl hl (by decide) rfl (fun ls hl => ?_)
          have hnx : pt_next fs lv mk cn u v = pt_fr fs u v (nb_d lv mk) cn := by rw [pt_next, if_pos hc26]
          rw [← hnx] at hl
          have hni := next_in fs lv mk cn u v
          generalize hce : pt_next fs lv mk cn u v = ce at hl hni
          refine lv_iload_n hx hb dc_Ck_propagate_50 rfl (lv_at hl 0 rfl) ?_
          refine kn_if_ne hx hb (by omega) dc_Ck_propagate_51 rfl (fun hc51 => ?_) (fun hc51 => ?_)
          · have hce0 : ¬ ce = 0 := hc51
            obtain ⟨hce1, hce2, hce3, hce4⟩ := hni.resolve_left hce0
            refine lv_aload_n hx hb dc_Ck_propagate_56 rfl (lv_at hl 2 rfl) ?_
            refine va_get (ci := 7) (v := .ref xa) (C := rn_Ck) (T := fd_Ck) (N := 5) hx hb hts in_Ck hown hK hP 0 rfl rfl 3 (by decide) (hts _ wd_579) (fun _ h9 => h9) rfl dc_Ck_propagate_57 ?_
            refine lv_aload_n hx hb dc_Ck_propagate_60 rfl (lv_at hl 2 rfl) ?_
            refine va_get (ci := 7) (v := .ref xc) (C := rn_Ck) (T := fd_Ck) (N := 5) hx hb hts in_Ck hown hK hP 0 rfl rfl 0 (by decide) (hts _ wd_576) (fun _ h9 => h9) rfl dc_Ck_propagate_61 ?_
            refine va_getN (ci := 2) (v := .ref cb) (C := rn_Cl) (T := fd_Cl) (N := 4) hx hb hts in_Cl hown hK hP 1 rfl rfl 1 (by decide) (nf_70 hN) (fun _ h9 => h9) rfl dc_Ck_propagate_64 ?_
            refine lv_iload_n hx hb dc_Ck_propagate_67 rfl (lv_at hl 0 rfl) ?_
            refine ka_nald (t := fs) hx hb hK hP 2 0 rfl rfl (j := ce) (by omega) (by omega) dc_Ck_propagate_68 ?_
            refine lv_iload_n hx hb dc_Ck_propagate_69 rfl (lv_at hl 0 rfl) ?_
            by_cases hy0 : nb_d (fs ce) v = 0
            · refine kr_call1 (va_runV (As := [.int (nI (fs ce)), .int (nI ce)]) (rest := []) ⟨hx, hb, hml, hown, hts⟩ (ct_As_follow_no l D cI cZ _ xa aa ab i u v (fs ce) ce (h16 _) (hy0)) (cwV 2 hts (kx_gV wd_632 wd_633 wd_634 wd_8 wd_635) rfl rfl rfl ⟨rfl, yd_As_follow⟩ ⟨Nat.le_of_ble_eq_true rfl, Nat.le_of_ble_eq_true rfl⟩) (kp_V (q0 := 3) (ci := 6) hP hD hK hN [3] rfl rfl rfl rfl rfl) rfl rfl hl.1 rfl (lv_room (Nat.le_of_ble_eq_true rfl)) dc_Ck_propagate_70 ⟨Nat.le_of_ble_eq_true rfl, Nat.le_of_ble_eq_true rfl⟩) ?_
              refine kb_if_ne hx hb dc_Ck_propagate_73 rfl (fun hc73 => ?_) (fun hc73 => ?_)
              · exact absurd hc73 (by decide)
              · refine lv_iload_n hx hb dc_Ck_propagate_76 rfl (lv_at hl 0 rfl) ?_
                exact kw_iret hx hb hr hlocks hP hD hS dc_Ck_propagate_77 (by rw [← h1, show 9 - k = (9 - (k + 1)) + 1 by omega, pt_prop, hce, if_neg hce0, if_pos hy0]) (by rw [← h1, show 9 - k = (9 - (k + 1)) + 1 by omega, pt_prop, hce, if_neg hce0, if_pos hy0])
            · obtain ⟨hn8, hy16, hcap2⟩ := cap_step h3 (h16 ce) hce4 hy0
              refine kw_call1 (wr := [ck_c o xc xs xt xa lv, cl_c xc ca cb cd cn, ar_n cI cb 33 fs, tr_c xt ta tb td g mk ckd]) (ws' := [ck_c o xc xs xt xa lv, cl_c xc ca cb cd cn, ar_n cI cb 33 fs, as_c xa aa ab (i + 1) (u ||| nb_d (fs ce) v) (v ||| nb_op (nb_d (fs ce) v)), ar_n cI aa 8 (va_up rk i ce), ar_n cI ab 8 (va_up ik i (nb_d (fs ce) v)), tr_c xt ta tb td g mk ckd]) (va_runV (As := [.int (nI (fs ce)), .int (nI ce)]) (rest := []) ⟨hx, hb, hml, hown, hts⟩ (ct_As_follow l D cI cZ _ xa aa ab i u v rk ik (fs ce) ce (h16 _) (hy0) (hn8)) (cwV 2 hts (kx_gV wd_632 wd_633 wd_634 wd_8 wd_635) rfl rfl rfl ⟨rfl, yd_As_follow⟩ ⟨Nat.le_of_ble_eq_true rfl, Nat.le_of_ble_eq_true rfl⟩) (kp_V (q0 := 3) (ci := 6) hP hD hK hN [3, 4, 5] rfl rfl rfl rfl rfl) rfl rfl hl.1 rfl (lv_room (Nat.le_of_ble_eq_true rfl)) dc_Ck_propagate_70 ⟨Nat.le_of_ble_eq_true rfl, Nat.le_of_ble_eq_true rfl⟩) hP hD hS hA [3, 4, 5] [0, 1, 2, 6] [0, 1, 2, 4, 5, 6, 3] rfl rfl rfl (by decide) rfl rfl (fun H locs hP hD hS => ?_)
              refine kb_if_ne hx hb dc_Ck_propagate_73 rfl (fun hc73 => ?_) (fun hc73 => ?_)
              · refine lv_iinc (k := 1) (v := nI (k + 1)) (lv' := [(1, .int (nI (k + 1))), (2, .int (nI ce)), (0, .ref o)]) hx hb dc_Ck_propagate_78 hl rfl (nI_1 _) (by decide) rfl (fun ls hl => ?_)
                refine lv_goto hx hb dc_Ck_propagate_81 rfl ?_
                have hl := lv_sub (l' := [(1, .int (nI (k + 1))), (0, .ref o)]) hl [0, 2] rfl
                exact ih _ _ _ _ _ _ _ _ _ (by omega) hP hD hS hl (by rw [← h1, show 9 - k = (9 - (k + 1)) + 1 by omega, pt_prop, hce, if_neg hce0, if_neg hy0]) (by omega) (hcap2)
              · exact absurd hc73 (by decide)
          · refine lv_iconst (v := nI 0) hx hb dc_Ck_propagate_54 (by decide +kernel) ?_
            exact kw_iret hx hb hr hlocks hP hD hS dc_Ck_propagate_55 (by rw [← h1, show 9 - k = (9 - (k + 1)) + 1 by omega, pt_prop, hce, if_pos hc51]) (by rw [← h1, show 9 - k = (9 - (k + 1)) + 1 by omega, pt_prop, hce, if_pos hc51])
  exact lp_2 _ _ _ _ _ _ _ _ _ _ (Nat.lt_succ_self _) hP hD hS hl (rfl) (by omega) (hcap)

theorem ex_st {rs : Nat → Nat} {u a i : Nat} (h : a ≤ i) : pt_exs rs u a (i + 1 - a) = pt_exs rs u a (i - a) ++ (if u.testBit (rs i) = true then [nI (rs i)] else []) := by
  rw [show i + 1 - a = (i - a) + 1 by omega, pt_exs, show a + (i - a) = i by omega]

theorem exs_le (rs : Nat → Nat) (u a : Nat) : ∀ k d, (pt_exs rs u a k).length ≤ (pt_exs rs u a (k + d)).length := by
  intro k d
  induction d with
  | zero => exact Nat.le_refl _
  | succ d ih =>
    rw [← Nat.add_assoc, pt_exs, List.length_append]
    omega
theorem exs_mono {rs : Nat → Nat} {u a i n : Nat} (h : i ≤ n) : (pt_exs rs u a (i - a)).length ≤ (pt_exs rs u a (n - a)).length := by
  have h1 := exs_le rs u a (i - a) (n - a - (i - a))
  rw [show i - a + (n - a - (i - a)) = n - a by omega] at h1
  exact h1
theorem exs_len (rs : Nat → Nat) (u a : Nat) : ∀ k, (pt_exs rs u a k).length ≤ k := by
  intro k
  induction k with
  | zero => exact Nat.le_refl _
  | succ k ih =>
    rw [pt_exs, List.length_append]
    split <;> simp <;> omega

set_option maxHeartbeats 4000000 in
set_option maxRecDepth 100000 in
theorem ct_Ck_explain (l : Launch) (D : va_G) (cI cZ : ClassId) (sz : Nat) (o : Nat) (xc : Nat) (xs : Nat) (xt : Nat) (xa : Nat) (lv : Nat) (ca : Nat) (cb : Nat) (cd : Nat) (cn : Nat) (fs : Nat → Nat) (aa : Nat) (ab : Nat) (n : Nat) (t : Nat) (f : Nat) (rs : Nat → Nat) (im : Nat → Nat) (ta : Nat) (tb : Nat) (td : Nat) (g : Nat) (mk : Nat) (ckd : Bool) (ft : Nat → Nat) (fc : Nat → Nat) (fr : Nat → Int32) (j : Nat) (a : Nat) (cf : Nat) (hcn : cn ≤ 32) (hn8 : n ≤ 8) (hri : ∀ k, k < n → rs k ≤ 32 ∧ im k < 65536) (hcf : cf ≤ 32) (hj : j < 33) (han : a ≤ n) (hu0 : pt_used fs rs im n (2 ^ cf) (fs cf) < 2 ^ 62) (hfit : g + (pt_exs rs (pt_used fs rs im n (2 ^ cf) (fs cf)) a (n - a) ++ [nI cf]).length ≤ 2048) : Met l yn_Ck_explain (Cond.code yn_Ck_explain bc_Ck_explain 7 (some .long) :: kx_all) ({ frames := 2, cells := 0, slots := 0, locals := 46 } : Room) (kp [.ref o, .int (nI j), .int (nI a), .int (nI cf)] D cI cZ [ck_c o xc xs xt xa lv, cl_c xc ca cb cd cn, ar_n cI cb 33 fs, as_c xa aa ab n t f, ar_n cI aa 8 rs, ar_n cI ab 8 im, tr_c xt ta tb td g mk ckd, ar_n cI ta 33 ft, ar_n cI tb 33 fc, ar_i cI td 2048 fr] sz) (kw_q (some (.long (lN (pt_used fs rs im n (2 ^ cf) (fs cf))))) D kc_l [ck_c o xc xs xt xa lv, cl_c xc ca cb cd cn, ar_n cI cb 33 fs, as_c xa aa ab n t f, ar_n cI aa 8 rs, ar_n cI ab 8 im, tr_c xt ta tb td (g + (pt_exs rs (pt_used fs rs im n (2 ^ cf) (fs cf)) a (n - a) ++ [nI cf]).length) mk ckd, ar_n cI ta 33 ft, ar_n cI tb 33 (va_up fc j (fc j + (pt_exs rs (pt_used fs rs im n (2 ^ cf) (fs cf)) a (n - a) ++ [nI cf]).length)), ar_i cI td 2048 (pt_put fr g (pt_exs rs (pt_used fs rs im n (2 ^ cf) (fs cf)) a (n - a) ++ [nI cf]))] (va_A [ck_c o xc xs xt xa lv, cl_c xc ca cb cd cn, ar_n cI cb 33 fs, as_c xa aa ab n t f, ar_n cI aa 8 rs, ar_n cI ab 8 im, tr_c xt ta tb td g mk ckd, ar_n cI ta 33 ft, ar_n cI tb 33 fc, ar_i cI td 2048 fr] sz)) 0 0 (va_A [ck_c o xc xs xt xa lv, cl_c xc ca cb cd cn, ar_n cI cb 33 fs, as_c xa aa ab n t f, ar_n cI aa 8 rs, ar_n cI ab 8 im, tr_c xt ta tb td g mk ckd, ar_n cI ta 33 ft, ar_n cI tb 33 fc, ar_i cI td 2048 fr] sz) := by
  refine kx_metW (by decide) (Nat.le_of_ble_eq_true rfl) ?_
  intro p e s m below meth c ls A hx hb hr hml hts hown hlocks hin hA hP hK hD hN hl hS
  have hown : s.vm.findClass rn_Ck = some m.cls := hown
  have hl : lv_has ls 7 [(0, .ref o), (1, .int (nI j)), (2, .int (nI a)), (3, .int (nI cf))] := hl
  have hu : pt_used fs rs im n (2 ^ cf) (fs cf) < 2 ^ 62 := hu0
  refine lv_aload_n hx hb dc_Ck_explain_0 rfl (lv_at hl 0 rfl) ?_
  refine va_get (ci := 7) (v := .ref xa) (C := rn_Ck) (T := fd_Ck) (N := 5) hx hb hts in_Ck hown hK hP 0 rfl rfl 3 (by decide) (hts _ wd_579) (fun _ h9 => h9) rfl dc_Ck_explain_1 ?_
  refine lv_iload_n hx hb dc_Ck_explain_4 rfl (lv_at hl 3 rfl) ?_
  refine lv_aload_n hx hb dc_Ck_explain_5 rfl (lv_at hl 0 rfl) ?_
  refine va_get (ci := 7) (v := .ref xc) (C := rn_Ck) (T := fd_Ck) (N := 5) hx hb hts in_Ck hown hK hP 0 rfl rfl 0 (by decide) (hts _ wd_576) (fun _ h9 => h9) rfl dc_Ck_explain_6 ?_
  refine va_getN (ci := 2) (v := .ref cb) (C := rn_Cl) (T := fd_Cl) (N := 4) hx hb hts in_Cl hown hK hP 1 rfl rfl 1 (by decide) (nf_70 hN) (fun _ h9 => h9) rfl dc_Ck_explain_9 ?_
  refine kr_call1 (va_runV (As := [.int (nI cf), .ref cb]) (rest := []) ⟨hx, hb, hml, hown, hts⟩ (ct_As_usedFor l D cI cZ _ xa aa ab n t f rs im cf cb 33 fs (by omega) (by omega) (by omega) (fun k hk => ⟨by have := (hri k hk).1; omega, (hri k hk).2⟩)) (cwV 2 hts (kx_gV wd_640 wd_641 wd_642 wd_8 wd_643) rfl rfl rfl ⟨rfl, yd_As_usedFor⟩ ⟨Nat.le_of_ble_eq_true rfl, Nat.le_of_ble_eq_true rfl⟩) (kp_V (q0 := 3) (ci := 6) hP hD hK hN [3, 4, 5, 2] rfl rfl rfl rfl rfl) rfl rfl hl.1 rfl (lv_room (Nat.le_of_ble_eq_true rfl)) dc_Ck_explain_12 ⟨Nat.le_of_ble_eq_true rfl, Nat.le_of_ble_eq_true rfl⟩) ?_
  refine lv_lstore (lv' := [(4, .long (lN (pt_used fs rs im n (2 ^ cf) (fs cf)))), (0, .ref o), (1, .int (nI j)), (2, .int (nI a)), (3, .int (nI cf))]) hx hb dc_Ck_explain_15 hl (by decide) rfl (fun ls hl => ?_)
  refine lv_iload_n hx hb dc_Ck_explain_17 rfl (lv_at hl 3 rfl) ?_
  refine lv_istore (lv' := [(6, .int (nI a)), (4, .long (lN (pt_used fs rs im n (2 ^ cf) (fs cf)))), (0, .ref o), (1, .int (nI j)), (2, .int (nI a)), (3, .int (nI cf))]) hx hb dc_Ck_explain_18 hl (by decide) rfl (fun ls hl => ?_)
  have lp_20 : ∀ (K : Nat) (i : Nat) (gk : Nat) (ck1 : Nat → Nat) (rk : Nat → Int32) (H : Heap) (locs : List Loc) (ls : Array Slot), n - i < K → va_P D kc_l [ck_c o xc xs xt xa lv, cl_c xc ca cb cd cn, ar_n cI cb 33 fs, as_c xa aa ab n t f, ar_n cI aa 8 rs, ar_n cI ab 8 im, tr_c xt ta tb td gk mk ckd, ar_n cI ta 33 ft, ar_n cI tb 33 ck1, ar_i cI td 2048 rk] H → va_D A [ck_c o xc xs xt xa lv, cl_c xc ca cb cd cn, ar_n cI cb 33 fs, as_c xa aa ab n t f, ar_n cI aa 8 rs, ar_n cI ab 8 im, tr_c xt ta tb td gk mk ckd, ar_n cI ta 33 ft, ar_n cI tb 33 ck1, ar_i cI td 2048 rk] → va_S A s.heap H locs → lv_has ls 7 [(6, .int (nI i)), (4, .long (lN (pt_used fs rs im n (2 ^ cf) (fs cf)))), (0, .ref o), (1, .int (nI j)), (2, .int (nI a)), (3, .int (nI cf))] → (gk = g + (pt_exs rs (pt_used fs rs im n (2 ^ cf) (fs cf)) a (i - a)).length) → (ck1 = va_up fc j (fc j + (pt_exs rs (pt_used fs rs im n (2 ^ cf) (fs cf)) a (i - a)).length)) → (rk = pt_put fr g (pt_exs rs (pt_used fs rs im n (2 ^ cf) (fs cf)) a (i - a))) → (a ≤ i ∧ i ≤ n) → W p l e ({ frames := 2, cells := 0, slots := 0, locals := 46 } : Room) s m ([.ref o, .int (nI j), .int (nI a), .int (nI cf)] : List Value).toArray below meth c H locs 0 0 (MQ below (kw_q (some (.long (lN (pt_used fs rs im n (2 ^ cf) (fs cf))))) D kc_l [ck_c o xc xs xt xa lv, cl_c xc ca cb cd cn, ar_n cI cb 33 fs, as_c xa aa ab n t f, ar_n cI aa 8 rs, ar_n cI ab 8 im, tr_c xt ta tb td (g + (pt_exs rs (pt_used fs rs im n (2 ^ cf) (fs cf)) a (n - a) ++ [nI cf]).length) mk ckd, ar_n cI ta 33 ft, ar_n cI tb 33 (va_up fc j (fc j + (pt_exs rs (pt_used fs rs im n (2 ^ cf) (fs cf)) a (n - a) ++ [nI cf]).length)), ar_i cI td 2048 (pt_put fr g (pt_exs rs (pt_used fs rs im n (2 ^ cf) (fs cf)) a (n - a) ++ [nI cf]))] A) ([.ref o, .int (nI j), .int (nI a), .int (nI cf)] : List Value).toArray s 0 0 A) (F0 m 20 ls []) := by
    intro K
    induction K with
    | zero =>
      intro i gk ck1 rk H locs ls hk
      exact absurd hk (Nat.not_lt_zero _)
    | succ K ih =>
      intro i gk ck1 rk H locs ls hk hP hD hS hl hgk hck hrk h2
      refine lv_iload hx hb dc_Ck_explain_20 (lv_at hl 0 rfl) ?_
      refine lv_aload_n hx hb dc_Ck_explain_22 rfl (lv_at hl 2 rfl) ?_
      refine va_get (ci := 7) (v := .ref xa) (C := rn_Ck) (T := fd_Ck) (N := 5) hx hb hts in_Ck hown hK hP 0 rfl rfl 3 (by decide) (hts _ wd_579) (fun _ h9 => h9) rfl dc_Ck_explain_23 ?_
      refine va_getN (ci := 6) (v := .int (nI n)) (C := rn_As) (T := fd_As) (N := 5) hx hb hts in_As hown hK hP 3 rfl rfl 2 (by decide) (nf_168 hN) (fun _ h9 => h9) rfl dc_Ck_explain_26 ?_
      refine kn_icmp_ge hx hb (by omega) (by omega) dc_Ck_explain_29 rfl (fun hc29 => ?_) (fun hc29 => ?_)
      · refine lv_aload_n hx hb dc_Ck_explain_74 rfl (lv_at hl 2 rfl) ?_
        refine va_get (ci := 7) (v := .ref xt) (C := rn_Ck) (T := fd_Ck) (N := 5) hx hb hts in_Ck hown hK hP 0 rfl rfl 2 (by decide) (hts _ wd_578) (fun _ h9 => h9) rfl dc_Ck_explain_75 ?_
        refine lv_iload_n hx hb dc_Ck_explain_78 rfl (lv_at hl 3 rfl) ?_
        refine lv_iload_n hx hb dc_Ck_explain_79 rfl (lv_at hl 5 rfl) ?_
        refine kw_call0 (wr := [ck_c o xc xs xt xa lv, cl_c xc ca cb cd cn, ar_n cI cb 33 fs, as_c xa aa ab n t f, ar_n cI aa 8 rs, ar_n cI ab 8 im]) (ws' := [ck_c o xc xs xt xa lv, cl_c xc ca cb cd cn, ar_n cI cb 33 fs, as_c xa aa ab n t f, ar_n cI aa 8 rs, ar_n cI ab 8 im, tr_c xt ta tb td (gk + 1) mk ckd, ar_n cI ta 33 ft, ar_n cI tb 33 (va_up ck1 j (ck1 j + 1)), ar_i cI td 2048 (upd rk gk (nI cf))]) (va_runV (As := [.int (nI j), .int (nI cf)]) (rest := []) ⟨hx, hb, hml, hown, hts⟩ (ct_Tr_append l D cI cZ _ xt ta tb td gk mk ckd ft ck1 rk j (nI cf) (by omega) (by rw [List.length_append] at hfit; simp only [List.length_singleton] at hfit; rw [hgk, show i = n by omega]; omega)) (cwV 2 hts (kx_gV wd_645 wd_646 wd_647 wd_7 wd_648) rfl rfl rfl ⟨rfl, yd_Tr_append⟩ ⟨Nat.le_of_ble_eq_true rfl, Nat.le_of_ble_eq_true rfl⟩) (kp_V (q0 := 6) (ci := 5) hP hD hK hN [6, 7, 8, 9] rfl rfl rfl rfl rfl) rfl rfl hl.1 rfl (lv_room (Nat.le_of_ble_eq_true rfl)) dc_Ck_explain_80 ⟨Nat.le_of_ble_eq_true rfl, Nat.le_of_ble_eq_true rfl⟩) hP hD hS hA [6, 7, 8, 9] [0, 1, 2, 3, 4, 5] [0, 1, 2, 3, 4, 5, 6, 7, 8, 9] rfl rfl rfl (by decide) rfl rfl (fun H locs hP hD hS => ?_)
        refine lv_lload hx hb dc_Ck_explain_83 (lv_at hl 1 rfl) ?_
        exact kw_lret hx hb hr hlocks hP hD hS dc_Ck_explain_85 (rfl) (by rw [hrk, hck, hgk, show i = n by omega, put_s, cnt_s, List.length_append]; rfl)
      · refine lv_lload hx hb dc_Ck_explain_32 (lv_at hl 1 rfl) ?_
        refine lv_aload_n hx hb dc_Ck_explain_34 rfl (lv_at hl 2 rfl) ?_
        refine va_get (ci := 7) (v := .ref xa) (C := rn_Ck) (T := fd_Ck) (N := 5) hx hb hts in_Ck hown hK hP 0 rfl rfl 3 (by decide) (hts _ wd_579) (fun _ h9 => h9) rfl dc_Ck_explain_35 ?_
        refine va_getN (ci := 6) (v := .ref aa) (C := rn_As) (T := fd_As) (N := 5) hx hb hts in_As hown hK hP 3 rfl rfl 0 (by decide) (nf_165 hN) (fun _ h9 => h9) rfl dc_Ck_explain_38 ?_
        refine lv_iload hx hb dc_Ck_explain_41 (lv_at hl 0 rfl) ?_
        refine ka_nald (t := rs) hx hb hK hP 4 0 rfl rfl (j := i) (by omega) (by omega) dc_Ck_explain_43 ?_
        refine kr_call1 (va_runSN (As := [.long (lN (pt_used fs rs im n (2 ^ cf) (fs cf))), .int (nI (rs i))]) (rest := []) ⟨hx, hb, hml, hown, hts⟩ (ct_Pt_contains l D cI cZ _ (pt_used fs rs im n (2 ^ cf) (fs cf)) (rs i) (hu) (by have := (hri i (by omega)).1; omega)) ⟨va_cnB 2 hts (kx_gi wd_262) rfl rfl rfl (nw_602 hN) (hts _ wd_1) yd_Pt_contains ⟨Nat.le_of_ble_eq_true rfl, Nat.le_of_ble_eq_true rfl⟩, hts _ wd_261, trivial⟩ (kp_S hP hD hK hN [] rfl rfl) rfl rfl hl.1 rfl (lv_room (Nat.le_of_ble_eq_true rfl)) dc_Ck_explain_44 ⟨Nat.le_of_ble_eq_true rfl, Nat.le_of_ble_eq_true rfl⟩) ?_
        refine kb_if_eq hx hb dc_Ck_explain_47 rfl (fun hc47 => ?_) (fun hc47 => ?_)
        · refine lv_iinc (k := 0) (v := nI (i + 1)) (lv' := [(6, .int (nI (i + 1))), (4, .long (lN (pt_used fs rs im n (2 ^ cf) (fs cf)))), (0, .ref o), (1, .int (nI j)), (2, .int (nI a)), (3, .int (nI cf))]) hx hb dc_Ck_explain_68 hl rfl (nI_1 _) (by decide) rfl (fun ls hl => ?_)
          refine lv_goto hx hb dc_Ck_explain_71 rfl ?_
          exact ih _ _ _ _ _ _ _ (by omega) hP hD hS hl (by rw [hgk, ex_st (rs := rs) (u := pt_used fs rs im n (2 ^ cf) (fs cf)) (a := a) (i := i) h2.1, if_neg (by rw [hc47]; decide), List.append_nil]) (by rw [hck, ex_st (rs := rs) (u := pt_used fs rs im n (2 ^ cf) (fs cf)) (a := a) (i := i) h2.1, if_neg (by rw [hc47]; decide), List.append_nil]) (by rw [hrk, ex_st (rs := rs) (u := pt_used fs rs im n (2 ^ cf) (fs cf)) (a := a) (i := i) h2.1, if_neg (by rw [hc47]; decide), List.append_nil]) (⟨by omega, by omega⟩)
        · have h9 := exs_mono (rs := rs) (u := pt_used fs rs im n (2 ^ cf) (fs cf)) (a := a) (i := i + 1) (n := n) (by omega)
          rw [ex_st h2.1, if_pos hc47, List.length_append] at h9
          rw [List.length_append] at hfit
          simp only [List.length_singleton] at hfit h9
          refine lv_aload_n hx hb dc_Ck_explain_50 rfl (lv_at hl 2 rfl) ?_
          refine va_get (ci := 7) (v := .ref xt) (C := rn_Ck) (T := fd_Ck) (N := 5) hx hb hts in_Ck hown hK hP 0 rfl rfl 2 (by decide) (hts _ wd_578) (fun _ h9 => h9) rfl dc_Ck_explain_51 ?_
          refine lv_iload_n hx hb dc_Ck_explain_54 rfl (lv_at hl 3 rfl) ?_
          refine lv_aload_n hx hb dc_Ck_explain_55 rfl (lv_at hl 2 rfl) ?_
          refine va_get (ci := 7) (v := .ref xa) (C := rn_Ck) (T := fd_Ck) (N := 5) hx hb hts in_Ck hown hK hP 0 rfl rfl 3 (by decide) (hts _ wd_579) (fun _ h9 => h9) rfl dc_Ck_explain_56 ?_
          refine va_getN (ci := 6) (v := .ref aa) (C := rn_As) (T := fd_As) (N := 5) hx hb hts in_As hown hK hP 3 rfl rfl 0 (by decide) (nf_165 hN) (fun _ h9 => h9) rfl dc_Ck_explain_59 ?_
          refine lv_iload hx hb dc_Ck_explain_62 (lv_at hl 0 rfl) ?_
          refine ka_nald (t := rs) hx hb hK hP 4 0 rfl rfl (j := i) (by omega) (by omega) dc_Ck_explain_64 ?_
          refine kw_call0 (wr := [ck_c o xc xs xt xa lv, cl_c xc ca cb cd cn, ar_n cI cb 33 fs, as_c xa aa ab n t f, ar_n cI aa 8 rs, ar_n cI ab 8 im]) (ws' := [ck_c o xc xs xt xa lv, cl_c xc ca cb cd cn, ar_n cI cb 33 fs, as_c xa aa ab n t f, ar_n cI aa 8 rs, ar_n cI ab 8 im, tr_c xt ta tb td (gk + 1) mk ckd, ar_n cI ta 33 ft, ar_n cI tb 33 (va_up ck1 j (ck1 j + 1)), ar_i cI td 2048 (upd rk gk (nI (rs i)))]) (va_runV (As := [.int (nI j), .int (nI (rs i))]) (rest := []) ⟨hx, hb, hml, hown, hts⟩ (ct_Tr_append l D cI cZ _ xt ta tb td gk mk ckd ft ck1 rk j (nI (rs i)) (by omega) (by omega)) (cwV 2 hts (kx_gV wd_645 wd_646 wd_647 wd_7 wd_648) rfl rfl rfl ⟨rfl, yd_Tr_append⟩ ⟨Nat.le_of_ble_eq_true rfl, Nat.le_of_ble_eq_true rfl⟩) (kp_V (q0 := 6) (ci := 5) hP hD hK hN [6, 7, 8, 9] rfl rfl rfl rfl rfl) rfl rfl hl.1 rfl (lv_room (Nat.le_of_ble_eq_true rfl)) dc_Ck_explain_65 ⟨Nat.le_of_ble_eq_true rfl, Nat.le_of_ble_eq_true rfl⟩) hP hD hS hA [6, 7, 8, 9] [0, 1, 2, 3, 4, 5] [0, 1, 2, 3, 4, 5, 6, 7, 8, 9] rfl rfl rfl (by decide) rfl rfl (fun H locs hP hD hS => ?_)
          refine lv_iinc (k := 0) (v := nI (i + 1)) (lv' := [(6, .int (nI (i + 1))), (4, .long (lN (pt_used fs rs im n (2 ^ cf) (fs cf)))), (0, .ref o), (1, .int (nI j)), (2, .int (nI a)), (3, .int (nI cf))]) hx hb dc_Ck_explain_68 hl rfl (nI_1 _) (by decide) rfl (fun ls hl => ?_)
          refine lv_goto hx hb dc_Ck_explain_71 rfl ?_
          exact ih _ _ _ _ _ _ _ (by omega) hP hD hS hl (by rw [hgk, ex_st (rs := rs) (u := pt_used fs rs im n (2 ^ cf) (fs cf)) (a := a) (i := i) h2.1, if_pos hc47, List.length_append]; rfl) (by rw [hck, ex_st (rs := rs) (u := pt_used fs rs im n (2 ^ cf) (fs cf)) (a := a) (i := i) h2.1, if_pos hc47]; exact cnt_s) (by rw [hrk, hgk, ex_st (rs := rs) (u := pt_used fs rs im n (2 ^ cf) (fs cf)) (a := a) (i := i) h2.1, if_pos hc47]; exact put_s) (⟨by omega, by omega⟩)
  exact lp_20 _ _ _ _ _ _ _ _ (Nat.lt_succ_self _) hP hD hS hl (by rw [Nat.sub_self]; rfl) (by rw [Nat.sub_self]; exact cnt_0.symm) (by rw [Nat.sub_self]; exact put_0.symm) (⟨by omega, by omega⟩)
