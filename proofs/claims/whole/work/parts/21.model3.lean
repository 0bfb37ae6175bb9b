/-! the reference: what is used, what is said -/
def pt_flg (fs rs im : Nat → Nat) : Nat → Nat → (Nat → Bool) → (Nat → Bool)
  | 0, _, us => us
  | k + 1, lk, us => if lk &&& nb_op (im k) = 0 then pt_flg fs rs im k lk (va_up us k false) else pt_flg fs rs im k (lk ||| fs (rs k)) (va_up us k true)
/-- flags, with those of a set -/
def pt_lt (lt : Nat → Bool) (u : Nat) : Nat → Bool := fun j => lt j || u.testBit j
theorem ltf_s {lt : Nat → Bool} {u k : Nat} : va_up (pt_lt lt u) k true = pt_lt lt (u ||| 2 ^ k) := by
  funext j
  unfold va_up pt_lt
  rw [Nat.testBit_or, Nat.testBit_two_pow]
  by_cases h : j = k
  · subst h; rw [if_pos rfl, decide_eq_true rfl]; simp
  · rw [if_neg h, decide_eq_false (fun q => h q.symm), Bool.or_false]
theorem ltf_0 {lt : Nat → Bool} {k : Nat} : va_up lt k true = pt_lt lt (2 ^ k) := by
  funext j
  unfold va_up pt_lt
  rw [Nat.testBit_two_pow]
  by_cases h : j = k
  · subst h; rw [if_pos rfl, decide_eq_true rfl]; simp
  · rw [if_neg h, decide_eq_false (fun q => h q.symm), Bool.or_false]
theorem and_op {lk t x : Nat} (h : nb_op x &&& nb_op t = nb_op x) : (lk &&& nb_op t) &&& nb_op x = lk &&& nb_op x := by
  rw [Nat.and_assoc, Nat.and_comm (nb_op t), h]
theorem op_sub {x t : Nat} (hx : x < 65536) (ht : t < 65536) (h : x &&& t = x) : nb_op x &&& nb_op t = nb_op x := by
  apply Nat.eq_of_testBit_eq
  intro i
  have hb : ∀ j, x.testBit j = true → t.testBit j = true := by
    intro j hj
    rw [← h, Nat.testBit_and, Bool.and_eq_true] at hj
    exact hj.2
  rw [Nat.testBit_and]
  cases hz : (nb_op x).testBit i with
  | false => rfl
  | true =>
    rw [Bool.true_and]
    rw [nb_op_bit hx] at hz
    rw [nb_op_bit ht]
    split
    · rename_i h8; rw [if_pos h8] at hz; exact hb _ hz
    · rename_i h8
      rw [if_neg h8] at hz
      split
      · rename_i h16; rw [if_pos h16] at hz; exact hb _ hz
      · rename_i h16; rw [if_neg h16] at hz; exact absurd hz (by decide)
theorem and_or_r (a b m : Nat) : (a &&& m) ||| (b &&& m) = (a ||| b) &&& m := by
  apply Nat.eq_of_testBit_eq
  intro i
  rw [Nat.testBit_or, Nat.testBit_and, Nat.testBit_and, Nat.testBit_and, Nat.testBit_or]
  cases a.testBit i <;> cases b.testBit i <;> cases m.testBit i <;> rfl
/-- flags up to k, those of the second set added -/
def pt_mka (kb lt : Nat → Bool) (k : Nat) : Nat → Bool := fun j => if 1 ≤ j ∧ j < k then kb j || lt j else kb j
theorem mka_1 {kb lt : Nat → Bool} : pt_mka kb lt 1 = kb := by
  funext j
  unfold pt_mka
  rw [if_neg (by omega)]
theorem mka_s {kb lt : Nat → Bool} {k : Nat} {b : Bool} (h1 : 1 ≤ k) (hb : b = (kb k || lt k)) : va_up (pt_mka kb lt k) k b = pt_mka kb lt (k + 1) := by
  funext j
  unfold va_up pt_mka
  by_cases h : j = k
  · subst h; rw [if_pos rfl, if_pos ⟨h1, by omega⟩, hb]
  · rw [if_neg h]
    by_cases h2 : 1 ≤ j ∧ j < k
    · rw [if_pos h2, if_pos ⟨h2.1, by omega⟩]
    · rw [if_neg h2, if_neg (by omega)]
theorem mka_at {kb lt : Nat → Bool} {k : Nat} : pt_mka kb lt k k = kb k := by
  unfold pt_mka
  rw [if_neg (by omega)]
/-- the formula's ones, up to k -/
def pt_fst (lb : Nat → Bool) (b k : Nat) : Nat → Bool := fun j => if 1 ≤ j ∧ j < k then decide (j ≤ b) else lb j
theorem fst_1 {lb : Nat → Bool} {b : Nat} : pt_fst lb b 1 = lb := by
  funext j
  unfold pt_fst
  rw [if_neg (by omega)]
theorem fst_s {lb : Nat → Bool} {b k : Nat} {x : Bool} (h1 : 1 ≤ k) (hx : x = decide (k ≤ b)) : va_up (pt_fst lb b k) k x = pt_fst lb b (k + 1) := by
  funext j
  unfold va_up pt_fst
  by_cases h : j = k
  · subst h; rw [if_pos rfl, if_pos ⟨h1, by omega⟩, hx]
  · rw [if_neg h]
    by_cases h2 : 1 ≤ j ∧ j < k
    · rw [if_pos h2, if_pos ⟨h2.1, by omega⟩]
    · rw [if_neg h2, if_neg (by omega)]

theorem dc_Mo_use_0 : decode bc_Mo_use 0 = .ok (.aload_n 0, 1) := by decide +kernel
theorem dc_Mo_use_1 : decode bc_Mo_use 1 = .ok (.getfield 168, 3) := by decide +kernel
theorem dc_Mo_use_4 : decode bc_Mo_use 4 = .ok (.invokestatic 171, 3) := by decide +kernel
theorem dc_Mo_use_7 : decode bc_Mo_use 7 = .ok (.istore_n 2, 1) := by decide +kernel
theorem dc_Mo_use_8 : decode bc_Mo_use 8 = .ok (.aload_n 0, 1) := by decide +kernel
theorem dc_Mo_use_9 : decode bc_Mo_use 9 = .ok (.getfield 23, 3) := by decide +kernel
theorem dc_Mo_use_12 : decode bc_Mo_use 12 = .ok (.iload_n 1, 1) := by decide +kernel
theorem dc_Mo_use_13 : decode bc_Mo_use 13 = .ok (.iaload, 1) := by decide +kernel
theorem dc_Mo_use_14 : decode bc_Mo_use 14 = .ok (.iload_n 2, 1) := by decide +kernel
theorem dc_Mo_use_15 : decode bc_Mo_use 15 = .ok (.iand, 1) := by decide +kernel
theorem dc_Mo_use_16 : decode bc_Mo_use 16 = .ok (.istore_n 3, 1) := by decide +kernel
theorem dc_Mo_use_17 : decode bc_Mo_use 17 = .ok (.aload_n 0, 1) := by decide +kernel
theorem dc_Mo_use_18 : decode bc_Mo_use 18 = .ok (.getfield 59, 3) := by decide +kernel
theorem dc_Mo_use_21 : decode bc_Mo_use 21 = .ok (.iload_n 1, 1) := by decide +kernel
theorem dc_Mo_use_22 : decode bc_Mo_use 22 = .ok (.iconst 1, 1) := by decide +kernel
theorem dc_Mo_use_23 : decode bc_Mo_use 23 = .ok (.bastore, 1) := by decide +kernel
theorem dc_Mo_use_24 : decode bc_Mo_use 24 = .ok (.aload_n 0, 1) := by decide +kernel
theorem dc_Mo_use_25 : decode bc_Mo_use 25 = .ok (.getfield 183, 3) := by decide +kernel
theorem dc_Mo_use_28 : decode bc_Mo_use 28 = .ok (.iconst 1, 1) := by decide +kernel
theorem dc_Mo_use_29 : decode bc_Mo_use 29 = .ok (.isub, 1) := by decide +kernel
theorem dc_Mo_use_30 : decode bc_Mo_use 30 = .ok (.istore 4, 2) := by decide +kernel
theorem dc_Mo_use_32 : decode bc_Mo_use 32 = .ok (.iload 4, 2) := by decide +kernel
theorem dc_Mo_use_34 : decode bc_Mo_use 34 = .ok (.ifCond .lt (76), 3) := by decide +kernel
theorem dc_Mo_use_37 : decode bc_Mo_use 37 = .ok (.aload_n 0, 1) := by decide +kernel
theorem dc_Mo_use_38 : decode bc_Mo_use 38 = .ok (.getfield 56, 3) := by decide +kernel
theorem dc_Mo_use_41 : decode bc_Mo_use 41 = .ok (.iload 4, 2) := by decide +kernel
theorem dc_Mo_use_43 : decode bc_Mo_use 43 = .ok (.iload_n 3, 1) := by decide +kernel
theorem dc_Mo_use_44 : decode bc_Mo_use 44 = .ok (.aload_n 0, 1) := by decide +kernel
theorem dc_Mo_use_45 : decode bc_Mo_use 45 = .ok (.getfield 53, 3) := by decide +kernel
theorem dc_Mo_use_48 : decode bc_Mo_use 48 = .ok (.iload 4, 2) := by decide +kernel
theorem dc_Mo_use_50 : decode bc_Mo_use 50 = .ok (.iaload, 1) := by decide +kernel
theorem dc_Mo_use_51 : decode bc_Mo_use 51 = .ok (.invokestatic 171, 3) := by decide +kernel
theorem dc_Mo_use_54 : decode bc_Mo_use 54 = .ok (.iand, 1) := by decide +kernel
theorem dc_Mo_use_55 : decode bc_Mo_use 55 = .ok (.ifCond .eq (7), 3) := by decide +kernel
theorem dc_Mo_use_58 : decode bc_Mo_use 58 = .ok (.iconst 1, 1) := by decide +kernel
theorem dc_Mo_use_59 : decode bc_Mo_use 59 = .ok (.goto (4), 3) := by decide +kernel
theorem dc_Mo_use_62 : decode bc_Mo_use 62 = .ok (.iconst 0, 1) := by decide +kernel
theorem dc_Mo_use_63 : decode bc_Mo_use 63 = .ok (.bastore, 1) := by decide +kernel
theorem dc_Mo_use_64 : decode bc_Mo_use 64 = .ok (.aload_n 0, 1) := by decide +kernel
theorem dc_Mo_use_65 : decode bc_Mo_use 65 = .ok (.getfield 56, 3) := by decide +kernel
theorem dc_Mo_use_68 : decode bc_Mo_use 68 = .ok (.iload 4, 2) := by decide +kernel
theorem dc_Mo_use_70 : decode bc_Mo_use 70 = .ok (.baload, 1) := by decide +kernel
theorem dc_Mo_use_71 : decode bc_Mo_use 71 = .ok (.ifCond .eq (33), 3) := by decide +kernel
theorem dc_Mo_use_74 : decode bc_Mo_use 74 = .ok (.iload_n 3, 1) := by decide +kernel
theorem dc_Mo_use_75 : decode bc_Mo_use 75 = .ok (.aload_n 0, 1) := by decide +kernel
theorem dc_Mo_use_76 : decode bc_Mo_use 76 = .ok (.getfield 23, 3) := by decide +kernel
theorem dc_Mo_use_79 : decode bc_Mo_use 79 = .ok (.aload_n 0, 1) := by decide +kernel
theorem dc_Mo_use_80 : decode bc_Mo_use 80 = .ok (.getfield 50, 3) := by decide +kernel
theorem dc_Mo_use_83 : decode bc_Mo_use 83 = .ok (.iload 4, 2) := by decide +kernel
theorem dc_Mo_use_85 : decode bc_Mo_use 85 = .ok (.iaload, 1) := by decide +kernel
theorem dc_Mo_use_86 : decode bc_Mo_use 86 = .ok (.iaload, 1) := by decide +kernel
theorem dc_Mo_use_87 : decode bc_Mo_use 87 = .ok (.iload_n 2, 1) := by decide +kernel
theorem dc_Mo_use_88 : decode bc_Mo_use 88 = .ok (.iand, 1) := by decide +kernel
theorem dc_Mo_use_89 : decode bc_Mo_use 89 = .ok (.ior, 1) := by decide +kernel
theorem dc_Mo_use_90 : decode bc_Mo_use 90 = .ok (.istore_n 3, 1) := by decide +kernel
theorem dc_Mo_use_91 : decode bc_Mo_use 91 = .ok (.aload_n 0, 1) := by decide +kernel
theorem dc_Mo_use_92 : decode bc_Mo_use 92 = .ok (.getfield 59, 3) := by decide +kernel
theorem dc_Mo_use_95 : decode bc_Mo_use 95 = .ok (.aload_n 0, 1) := by decide +kernel
theorem dc_Mo_use_96 : decode bc_Mo_use 96 = .ok (.getfield 50, 3) := by decide +kernel
theorem dc_Mo_use_99 : decode bc_Mo_use 99 = .ok (.iload 4, 2) := by decide +kernel
theorem dc_Mo_use_101 : decode bc_Mo_use 101 = .ok (.iaload, 1) := by decide +kernel
theorem dc_Mo_use_102 : decode bc_Mo_use 102 = .ok (.iconst 1, 1) := by decide +kernel
theorem dc_Mo_use_103 : decode bc_Mo_use 103 = .ok (.bastore, 1) := by decide +kernel
theorem dc_Mo_use_104 : decode bc_Mo_use 104 = .ok (.iinc 4 (-1), 3) := by decide +kernel
theorem dc_Mo_use_107 : decode bc_Mo_use 107 = .ok (.goto (-75), 3) := by decide +kernel
theorem dc_Mo_use_110 : decode bc_Mo_use 110 = .ok (.return_, 1) := by decide +kernel
theorem dc_Mo_sayUsed_0 : decode bc_Mo_sayUsed 0 = .ok (.iload_n 2, 1) := by decide +kernel
theorem dc_Mo_sayUsed_1 : decode bc_Mo_sayUsed 1 = .ok (.istore 4, 2) := by decide +kernel
theorem dc_Mo_sayUsed_3 : decode bc_Mo_sayUsed 3 = .ok (.iload 4, 2) := by decide +kernel
theorem dc_Mo_sayUsed_5 : decode bc_Mo_sayUsed 5 = .ok (.aload_n 0, 1) := by decide +kernel
theorem dc_Mo_sayUsed_6 : decode bc_Mo_sayUsed 6 = .ok (.getfield 183, 3) := by decide +kernel
theorem dc_Mo_sayUsed_9 : decode bc_Mo_sayUsed 9 = .ok (.if_icmp .ge (31), 3) := by decide +kernel
theorem dc_Mo_sayUsed_12 : decode bc_Mo_sayUsed 12 = .ok (.aload_n 0, 1) := by decide +kernel
theorem dc_Mo_sayUsed_13 : decode bc_Mo_sayUsed 13 = .ok (.getfield 56, 3) := by decide +kernel
theorem dc_Mo_sayUsed_16 : decode bc_Mo_sayUsed 16 = .ok (.iload 4, 2) := by decide +kernel
theorem dc_Mo_sayUsed_18 : decode bc_Mo_sayUsed 18 = .ok (.baload, 1) := by decide +kernel
theorem dc_Mo_sayUsed_19 : decode bc_Mo_sayUsed 19 = .ok (.ifCond .eq (15), 3) := by decide +kernel
theorem dc_Mo_sayUsed_22 : decode bc_Mo_sayUsed 22 = .ok (.aload_n 0, 1) := by decide +kernel
theorem dc_Mo_sayUsed_23 : decode bc_Mo_sayUsed 23 = .ok (.iload_n 1, 1) := by decide +kernel
theorem dc_Mo_sayUsed_24 : decode bc_Mo_sayUsed 24 = .ok (.aload_n 0, 1) := by decide +kernel
theorem dc_Mo_sayUsed_25 : decode bc_Mo_sayUsed 25 = .ok (.getfield 50, 3) := by decide +kernel
theorem dc_Mo_sayUsed_28 : decode bc_Mo_sayUsed 28 = .ok (.iload 4, 2) := by decide +kernel
theorem dc_Mo_sayUsed_30 : decode bc_Mo_sayUsed 30 = .ok (.iaload, 1) := by decide +kernel
theorem dc_Mo_sayUsed_31 : decode bc_Mo_sayUsed 31 = .ok (.invokevirtual 186, 3) := by decide +kernel
theorem dc_Mo_sayUsed_34 : decode bc_Mo_sayUsed 34 = .ok (.iinc 4 (1), 3) := by decide +kernel
theorem dc_Mo_sayUsed_37 : decode bc_Mo_sayUsed 37 = .ok (.goto (-34), 3) := by decide +kernel
theorem dc_Mo_sayUsed_40 : decode bc_Mo_sayUsed 40 = .ok (.aload_n 0, 1) := by decide +kernel
theorem dc_Mo_sayUsed_41 : decode bc_Mo_sayUsed 41 = .ok (.iload_n 1, 1) := by decide +kernel
theorem dc_Mo_sayUsed_42 : decode bc_Mo_sayUsed 42 = .ok (.iload_n 3, 1) := by decide +kernel
theorem dc_Mo_sayUsed_43 : decode bc_Mo_sayUsed 43 = .ok (.invokevirtual 186, 3) := by decide +kernel
theorem dc_Mo_sayUsed_46 : decode bc_Mo_sayUsed 46 = .ok (.return_, 1) := by decide +kernel
theorem dc_Mo_markAll_0 : decode bc_Mo_markAll 0 = .ok (.iconst 1, 1) := by decide +kernel
theorem dc_Mo_markAll_1 : decode bc_Mo_markAll 1 = .ok (.istore_n 1, 1) := by decide +kernel
theorem dc_Mo_markAll_2 : decode bc_Mo_markAll 2 = .ok (.iload_n 1, 1) := by decide +kernel
theorem dc_Mo_markAll_3 : decode bc_Mo_markAll 3 = .ok (.aload_n 0, 1) := by decide +kernel
theorem dc_Mo_markAll_4 : decode bc_Mo_markAll 4 = .ok (.getfield 122, 3) := by decide +kernel
theorem dc_Mo_markAll_7 : decode bc_Mo_markAll 7 = .ok (.if_icmp .gt (38), 3) := by decide +kernel
theorem dc_Mo_markAll_10 : decode bc_Mo_markAll 10 = .ok (.aload_n 0, 1) := by decide +kernel
theorem dc_Mo_markAll_11 : decode bc_Mo_markAll 11 = .ok (.getfield 35, 3) := by decide +kernel
theorem dc_Mo_markAll_14 : decode bc_Mo_markAll 14 = .ok (.iload_n 1, 1) := by decide +kernel
theorem dc_Mo_markAll_15 : decode bc_Mo_markAll 15 = .ok (.aload_n 0, 1) := by decide +kernel
theorem dc_Mo_markAll_16 : decode bc_Mo_markAll 16 = .ok (.getfield 35, 3) := by decide +kernel
theorem dc_Mo_markAll_19 : decode bc_Mo_markAll 19 = .ok (.iload_n 1, 1) := by decide +kernel
theorem dc_Mo_markAll_20 : decode bc_Mo_markAll 20 = .ok (.baload, 1) := by decide +kernel
theorem dc_Mo_markAll_21 : decode bc_Mo_markAll 21 = .ok (.ifCond .ne (12), 3) := by decide +kernel
theorem dc_Mo_markAll_24 : decode bc_Mo_markAll 24 = .ok (.aload_n 0, 1) := by decide +kernel
theorem dc_Mo_markAll_25 : decode bc_Mo_markAll 25 = .ok (.getfield 59, 3) := by decide +kernel
theorem dc_Mo_markAll_28 : decode bc_Mo_markAll 28 = .ok (.iload_n 1, 1) := by decide +kernel
theorem dc_Mo_markAll_29 : decode bc_Mo_markAll 29 = .ok (.baload, 1) := by decide +kernel
theorem dc_Mo_markAll_30 : decode bc_Mo_markAll 30 = .ok (.ifCond .eq (7), 3) := by decide +kernel
theorem dc_Mo_markAll_33 : decode bc_Mo_markAll 33 = .ok (.iconst 1, 1) := by decide +kernel
theorem dc_Mo_markAll_34 : decode bc_Mo_markAll 34 = .ok (.goto (4), 3) := by decide +kernel
theorem dc_Mo_markAll_37 : decode bc_Mo_markAll 37 = .ok (.iconst 0, 1) := by decide +kernel
theorem dc_Mo_markAll_38 : decode bc_Mo_markAll 38 = .ok (.bastore, 1) := by decide +kernel
theorem dc_Mo_markAll_39 : decode bc_Mo_markAll 39 = .ok (.iinc 1 (1), 3) := by decide +kernel
theorem dc_Mo_markAll_42 : decode bc_Mo_markAll 42 = .ok (.goto (-40), 3) := by decide +kernel
theorem dc_Mo_markAll_45 : decode bc_Mo_markAll 45 = .ok (.return_, 1) := by decide +kernel
theorem dc_Mo_first_0 : decode bc_Mo_first 0 = .ok (.iconst 1, 1) := by decide +kernel
theorem dc_Mo_first_1 : decode bc_Mo_first 1 = .ok (.istore_n 1, 1) := by decide +kernel
theorem dc_Mo_first_2 : decode bc_Mo_first 2 = .ok (.iload_n 1, 1) := by decide +kernel
theorem dc_Mo_first_3 : decode bc_Mo_first 3 = .ok (.bipush (33), 2) := by decide +kernel
theorem dc_Mo_first_5 : decode bc_Mo_first 5 = .ok (.if_icmp .ge (28), 3) := by decide +kernel
theorem dc_Mo_first_8 : decode bc_Mo_first 8 = .ok (.aload_n 0, 1) := by decide +kernel
theorem dc_Mo_first_9 : decode bc_Mo_first 9 = .ok (.getfield 32, 3) := by decide +kernel
theorem dc_Mo_first_12 : decode bc_Mo_first 12 = .ok (.iload_n 1, 1) := by decide +kernel
theorem dc_Mo_first_13 : decode bc_Mo_first 13 = .ok (.iload_n 1, 1) := by decide +kernel
theorem dc_Mo_first_14 : decode bc_Mo_first 14 = .ok (.aload_n 0, 1) := by decide +kernel
theorem dc_Mo_first_15 : decode bc_Mo_first 15 = .ok (.getfield 150, 3) := by decide +kernel
theorem dc_Mo_first_18 : decode bc_Mo_first 18 = .ok (.if_icmp .gt (7), 3) := by decide +kernel
theorem dc_Mo_first_21 : decode bc_Mo_first 21 = .ok (.iconst 1, 1) := by decide +kernel
theorem dc_Mo_first_22 : decode bc_Mo_first 22 = .ok (.goto (4), 3) := by decide +kernel
theorem dc_Mo_first_25 : decode bc_Mo_first 25 = .ok (.iconst 0, 1) := by decide +kernel
theorem dc_Mo_first_26 : decode bc_Mo_first 26 = .ok (.bastore, 1) := by decide +kernel
theorem dc_Mo_first_27 : decode bc_Mo_first 27 = .ok (.iinc 1 (1), 3) := by decide +kernel
theorem dc_Mo_first_30 : decode bc_Mo_first 30 = .ok (.goto (-28), 3) := by decide +kernel
theorem dc_Mo_first_33 : decode bc_Mo_first 33 = .ok (.return_, 1) := by decide +kernel
theorem dc_Mo_alike_0 : decode bc_Mo_alike 0 = .ok (.aload_n 0, 1) := by decide +kernel
theorem dc_Mo_alike_1 : decode bc_Mo_alike 1 = .ok (.getfield 122, 3) := by decide +kernel
theorem dc_Mo_alike_4 : decode bc_Mo_alike 4 = .ok (.istore_n 2, 1) := by decide +kernel
theorem dc_Mo_alike_5 : decode bc_Mo_alike 5 = .ok (.iload_n 2, 1) := by decide +kernel
theorem dc_Mo_alike_6 : decode bc_Mo_alike 6 = .ok (.ifCond .le (28), 3) := by decide +kernel
theorem dc_Mo_alike_9 : decode bc_Mo_alike 9 = .ok (.aload_n 0, 1) := by decide +kernel
theorem dc_Mo_alike_10 : decode bc_Mo_alike 10 = .ok (.getfield 32, 3) := by decide +kernel
theorem dc_Mo_alike_13 : decode bc_Mo_alike 13 = .ok (.iload_n 2, 1) := by decide +kernel
theorem dc_Mo_alike_14 : decode bc_Mo_alike 14 = .ok (.baload, 1) := by decide +kernel
theorem dc_Mo_alike_15 : decode bc_Mo_alike 15 = .ok (.ifCond .eq (13), 3) := by decide +kernel
theorem dc_Mo_alike_18 : decode bc_Mo_alike 18 = .ok (.aload_n 0, 1) := by decide +kernel
theorem dc_Mo_alike_19 : decode bc_Mo_alike 19 = .ok (.getfield 23, 3) := by decide +kernel
theorem dc_Mo_alike_22 : decode bc_Mo_alike 22 = .ok (.iload_n 2, 1) := by decide +kernel
theorem dc_Mo_alike_23 : decode bc_Mo_alike 23 = .ok (.iaload, 1) := by decide +kernel
theorem dc_Mo_alike_24 : decode bc_Mo_alike 24 = .ok (.iload_n 1, 1) := by decide +kernel
theorem dc_Mo_alike_25 : decode bc_Mo_alike 25 = .ok (.if_icmp .eq (9), 3) := by decide +kernel
theorem dc_Mo_alike_28 : decode bc_Mo_alike 28 = .ok (.iinc 2 (-1), 3) := by decide +kernel
theorem dc_Mo_alike_31 : decode bc_Mo_alike 31 = .ok (.goto (-26), 3) := by decide +kernel
theorem dc_Mo_alike_34 : decode bc_Mo_alike 34 = .ok (.iload_n 2, 1) := by decide +kernel
theorem dc_Mo_alike_35 : decode bc_Mo_alike 35 = .ok (.ireturn, 1) := by decide +kernel
theorem dc_Mo_make_0 : decode bc_Mo_make 0 = .ok (.aload_n 0, 1) := by decide +kernel
theorem dc_Mo_make_1 : decode bc_Mo_make 1 = .ok (.dup, 1) := by decide +kernel
theorem dc_Mo_make_2 : decode bc_Mo_make 2 = .ok (.getfield 122, 3) := by decide +kernel
theorem dc_Mo_make_5 : decode bc_Mo_make 5 = .ok (.iconst 1, 1) := by decide +kernel
theorem dc_Mo_make_6 : decode bc_Mo_make 6 = .ok (.iadd, 1) := by decide +kernel
theorem dc_Mo_make_7 : decode bc_Mo_make 7 = .ok (.putfield 122, 3) := by decide +kernel
theorem dc_Mo_make_10 : decode bc_Mo_make 10 = .ok (.aload_n 0, 1) := by decide +kernel
theorem dc_Mo_make_11 : decode bc_Mo_make 11 = .ok (.getfield 26, 3) := by decide +kernel
theorem dc_Mo_make_14 : decode bc_Mo_make 14 = .ok (.aload_n 0, 1) := by decide +kernel
theorem dc_Mo_make_15 : decode bc_Mo_make 15 = .ok (.getfield 122, 3) := by decide +kernel
theorem dc_Mo_make_18 : decode bc_Mo_make 18 = .ok (.aload_n 0, 1) := by decide +kernel
theorem dc_Mo_make_19 : decode bc_Mo_make 19 = .ok (.getfield 13, 3) := by decide +kernel
theorem dc_Mo_make_22 : decode bc_Mo_make 22 = .ok (.iload_n 1, 1) := by decide +kernel
theorem dc_Mo_make_23 : decode bc_Mo_make 23 = .ok (.iaload, 1) := by decide +kernel
theorem dc_Mo_make_24 : decode bc_Mo_make 24 = .ok (.iastore, 1) := by decide +kernel
theorem dc_Mo_make_25 : decode bc_Mo_make 25 = .ok (.aload_n 0, 1) := by decide +kernel
theorem dc_Mo_make_26 : decode bc_Mo_make 26 = .ok (.getfield 23, 3) := by decide +kernel
theorem dc_Mo_make_29 : decode bc_Mo_make 29 = .ok (.aload_n 0, 1) := by decide +kernel
theorem dc_Mo_make_30 : decode bc_Mo_make 30 = .ok (.getfield 122, 3) := by decide +kernel
theorem dc_Mo_make_33 : decode bc_Mo_make 33 = .ok (.aload_n 0, 1) := by decide +kernel
theorem dc_Mo_make_34 : decode bc_Mo_make 34 = .ok (.iload_n 1, 1) := by decide +kernel
theorem dc_Mo_make_35 : decode bc_Mo_make 35 = .ok (.invokevirtual 125, 3) := by decide +kernel
theorem dc_Mo_make_38 : decode bc_Mo_make 38 = .ok (.iastore, 1) := by decide +kernel
theorem dc_Mo_make_39 : decode bc_Mo_make 39 = .ok (.iconst 0, 1) := by decide +kernel
theorem dc_Mo_make_40 : decode bc_Mo_make 40 = .ok (.istore_n 2, 1) := by decide +kernel
theorem dc_Mo_make_41 : decode bc_Mo_make 41 = .ok (.iload_n 2, 1) := by decide +kernel
theorem dc_Mo_make_42 : decode bc_Mo_make 42 = .ok (.aload_n 0, 1) := by decide +kernel
theorem dc_Mo_make_43 : decode bc_Mo_make 43 = .ok (.getfield 13, 3) := by decide +kernel
theorem dc_Mo_make_46 : decode bc_Mo_make 46 = .ok (.iload_n 1, 1) := by decide +kernel
theorem dc_Mo_make_47 : decode bc_Mo_make 47 = .ok (.iaload, 1) := by decide +kernel
theorem dc_Mo_make_48 : decode bc_Mo_make 48 = .ok (.if_icmp .ge (34), 3) := by decide +kernel
theorem dc_Mo_make_51 : decode bc_Mo_make 51 = .ok (.aload_n 0, 1) := by decide +kernel
theorem dc_Mo_make_52 : decode bc_Mo_make 52 = .ok (.getfield 29, 3) := by decide +kernel
theorem dc_Mo_make_55 : decode bc_Mo_make 55 = .ok (.bipush (8), 2) := by decide +kernel
theorem dc_Mo_make_57 : decode bc_Mo_make 57 = .ok (.aload_n 0, 1) := by decide +kernel
theorem dc_Mo_make_58 : decode bc_Mo_make 58 = .ok (.getfield 122, 3) := by decide +kernel
theorem dc_Mo_make_61 : decode bc_Mo_make 61 = .ok (.imul, 1) := by decide +kernel
theorem dc_Mo_make_62 : decode bc_Mo_make 62 = .ok (.iload_n 2, 1) := by decide +kernel
theorem dc_Mo_make_63 : decode bc_Mo_make 63 = .ok (.iadd, 1) := by decide +kernel
theorem dc_Mo_make_64 : decode bc_Mo_make 64 = .ok (.aload_n 0, 1) := by decide +kernel
theorem dc_Mo_make_65 : decode bc_Mo_make 65 = .ok (.getfield 16, 3) := by decide +kernel
theorem dc_Mo_make_68 : decode bc_Mo_make 68 = .ok (.bipush (8), 2) := by decide +kernel
theorem dc_Mo_make_70 : decode bc_Mo_make 70 = .ok (.iload_n 1, 1) := by decide +kernel
theorem dc_Mo_make_71 : decode bc_Mo_make 71 = .ok (.imul, 1) := by decide +kernel
theorem dc_Mo_make_72 : decode bc_Mo_make 72 = .ok (.iload_n 2, 1) := by decide +kernel
theorem dc_Mo_make_73 : decode bc_Mo_make 73 = .ok (.iadd, 1) := by decide +kernel
theorem dc_Mo_make_74 : decode bc_Mo_make 74 = .ok (.iaload, 1) := by decide +kernel
theorem dc_Mo_make_75 : decode bc_Mo_make 75 = .ok (.iastore, 1) := by decide +kernel
theorem dc_Mo_make_76 : decode bc_Mo_make 76 = .ok (.iinc 2 (1), 3) := by decide +kernel
theorem dc_Mo_make_79 : decode bc_Mo_make 79 = .ok (.goto (-38), 3) := by decide +kernel
theorem dc_Mo_make_82 : decode bc_Mo_make 82 = .ok (.return_, 1) := by decide +kernel
set_option maxHeartbeats 4000000 in
set_option maxRecDepth 100000 in
theorem ct_Mo_use (l : Launch) (D : va_G) (cI cZ : ClassId) (sz : Nat) (o : Nat) (mth : Nat) (mty : Nat) (x0 : Nat) (mat : Nat) (mfr : Nat) (mto : Nat) (mgd : Bool) (mrd : Nat) (x1 : Nat) (x2 : Nat) (x3 : Nat) (mhf : Bool) (mhp : Bool) (mcl : Bool) (mck : Bool) (mba : Nat) (mct : Nat) (x4 : Nat) (x5 : Nat) (x6 : Nat) (x7 : Nat) (x8 : Nat) (mst : Nat) (x9 : Nat) (x10 : Nat) (x11 : Nat) (x12 : Nat) (mtr : Nat) (mrs : Nat) (x13 : Nat) (x14 : Nat) (x15 : Nat) (x16 : Nat) (mwr : Nat) (x17 : Nat) (mfo : Nat) (fs : Nat → Nat) (rs : Nat → Nat) (im : Nat → Nat) (us : Nat → Bool) (lt : Nat → Bool) (cf : Nat) (ht16 : mtr < 65536) (hn8 : mrs ≤ 8) (hcf : cf ≤ 32) (hri : ∀ k, k < mrs → rs k ≤ 32 ∧ im k < 65536 ∧ im k &&& mtr = im k) : Met l yn_Mo_use (Cond.code yn_Mo_use bc_Mo_use 5 none :: kx_all) ({ frames := 1, cells := 0, slots := 0, locals := 20 } : Room) (kp [.ref o, .int (nI cf)] D cI cZ [mo_c o mth mty x0 mat mfr mto mgd mrd x1 x2 x3 mhf mhp mcl mck mba mct x4 x5 x6 x7 x8 mst x9 x10 x11 x12 mtr mrs x13 x14 x15 x16 mwr x17 mfo, ar_n cI x4 33 fs, ar_n cI x13 8 rs, ar_n cI x14 8 im, ar_b cZ x15 8 us, ar_b cZ x16 33 lt] sz) (kw_q none D kc_l [mo_c o mth mty x0 mat mfr mto mgd mrd x1 x2 x3 mhf mhp mcl mck mba mct x4 x5 x6 x7 x8 mst x9 x10 x11 x12 mtr mrs x13 x14 x15 x16 mwr x17 mfo, ar_n cI x4 33 fs, ar_n cI x13 8 rs, ar_n cI x14 8 im, ar_b cZ x15 8 (pt_flg fs rs im mrs (fs cf) us), ar_b cZ x16 33 (pt_lt lt (pt_used fs rs im mrs (2 ^ cf) (fs cf)))] (va_A [mo_c o mth mty x0 mat mfr mto mgd mrd x1 x2 x3 mhf mhp mcl mck mba mct x4 x5 x6 x7 x8 mst x9 x10 x11 x12 mtr mrs x13 x14 x15 x16 mwr x17 mfo, ar_n cI x4 33 fs, ar_n cI x13 8 rs, ar_n cI x14 8 im, ar_b cZ x15 8 us, ar_b cZ x16 33 lt] sz)) 0 0 (va_A [mo_c o mth mty x0 mat mfr mto mgd mrd x1 x2 x3 mhf mhp mcl mck mba mct x4 x5 x6 x7 x8 mst x9 x10 x11 x12 mtr mrs x13 x14 x15 x16 mwr x17 mfo, ar_n cI x4 33 fs, ar_n cI x13 8 rs, ar_n cI x14 8 im, ar_b cZ x15 8 us, ar_b cZ x16 33 lt] sz) := by
  refine kx_metW (by decide) (Nat.le_of_ble_eq_true rfl) ?_
  intro p e s m below meth c ls A hx hb hr hml hts hown hlocks hin hA hP hK hD hN hl hS
  have hown : s.vm.findClass rn_Mo = some m.cls := hown
  have hl : lv_has ls 5 [(0, .ref o), (1, .int (nI cf))] := hl
  refine lv_aload_n hx hb dc_Mo_use_0 rfl (lv_at hl 0 rfl) ?_
  refine va_get (ci := 10) (v := .int (nI mtr)) (C := rn_Mo) (T := fd_Mo) (N := 36) hx hb hts in_Mo hown hK hP 0 rfl rfl 27 (by decide) (hts _ wd_773) (fun _ h9 => h9) rfl dc_Mo_use_1 ?_
  refine kr_call1 (va_runS (As := [.int (nI mtr)]) (rest := []) ⟨hx, hb, hml, hown, hts⟩ (ct_Mo_opposite l D cI cZ _ mtr (ht16)) (cwS 1 hts (kx_gS wd_946 wd_947 wd_9 wd_948) rfl rfl rfl ⟨rfl, yd_Mo_opposite⟩ ⟨Nat.le_of_ble_eq_true rfl, Nat.le_of_ble_eq_true rfl⟩) (kp_S hP hD hK hN [] rfl rfl) rfl rfl hl.1 rfl (lv_room (Nat.le_of_ble_eq_true rfl)) dc_Mo_use_4 ⟨Nat.le_of_ble_eq_true rfl, Nat.le_of_ble_eq_true rfl⟩) ?_
  refine lv_istore_n (lv' := [(2, .int (nI (nb_op mtr))), (0, .ref o), (1, .int (nI cf))]) hx hb dc_Mo_use_7 rfl hl (by decide) rfl (fun ls hl => ?_)
  refine lv_aload_n hx hb dc_Mo_use_8 rfl (lv_at hl 1 rfl) ?_
  refine va_get (ci := 10) (v := .ref x4) (C := rn_Mo) (T := fd_Mo) (N := 36) hx hb hts in_Mo hown hK hP 0 rfl rfl 17 (by decide) (hts _ wd_763) (fun _ h9 => h9) rfl dc_Mo_use_9 ?_
  refine lv_iload_n hx hb dc_Mo_use_12 rfl (lv_at hl 2 rfl) ?_
  refine ka_nald (t := fs) hx hb hK hP 1 0 rfl rfl (j := cf) (by omega) (by omega) dc_Mo_use_13 ?_
  refine lv_iload_n hx hb dc_Mo_use_14 rfl (lv_at hl 0 rfl) ?_
  refine kn_iand hx hb dc_Mo_use_15 ?_
  refine lv_istore_n (lv' := [(3, .int (nI ((fs cf) &&& (nb_op mtr)))), (2, .int (nI (nb_op mtr))), (0, .ref o), (1, .int (nI cf))]) hx hb dc_Mo_use_16 rfl hl (by decide) rfl (fun ls hl => ?_)
  refine lv_aload_n hx hb dc_Mo_use_17 rfl (lv_at hl 2 rfl) ?_
  refine va_get (ci := 10) (v := .ref x16) (C := rn_Mo) (T := fd_Mo) (N := 36) hx hb hts in_Mo hown hK hP 0 rfl rfl 32 (by decide) (hts _ wd_778) (fun _ h9 => h9) rfl dc_Mo_use_18 ?_
  refine lv_iload_n hx hb dc_Mo_use_21 rfl (lv_at hl 3 rfl) ?_
  refine lv_iconst (v := nI 1) hx hb dc_Mo_use_22 (by decide +kernel) ?_
  refine kn_top (y := kb_i true) (by decide +kernel) ?_
  refine ka_bast (t := lt) hx hb hK hP hD hS 5 1 rfl rfl (j := cf) (by omega) (by omega) dc_Mo_use_23 (ws' := [mo_c o mth mty x0 mat mfr mto mgd mrd x1 x2 x3 mhf mhp mcl mck mba mct x4 x5 x6 x7 x8 mst x9 x10 x11 x12 mtr mrs x13 x14 x15 x16 mwr x17 mfo, ar_n cI x4 33 fs, ar_n cI x13 8 rs, ar_n cI x14 8 im, ar_b cZ x15 8 us, ar_b cZ x16 33 (va_up lt cf true)]) rfl (fun H locs hP hD hS => ?_)
  refine lv_aload_n hx hb dc_Mo_use_24 rfl (lv_at hl 2 rfl) ?_
  refine va_get (ci := 10) (v := .int (nI mrs)) (C := rn_Mo) (T := fd_Mo) (N := 36) hx hb hts in_Mo hown hK hP 0 rfl rfl 28 (by decide) (hts _ wd_774) (fun _ h9 => h9) rfl dc_Mo_use_25 ?_
  refine lv_iconst (v := nI 1) hx hb dc_Mo_use_28 (by decide +kernel) ?_
  refine lv_isub hx hb dc_Mo_use_29 ?_
  refine kn_top (y := pt_dn mrs) rfl ?_
  refine lv_istore (lv' := [(4, .int (pt_dn mrs)), (3, .int (nI ((fs cf) &&& (nb_op mtr)))), (2, .int (nI (nb_op mtr))), (0, .ref o), (1, .int (nI cf))]) hx hb dc_Mo_use_30 hl (by decide) rfl (fun ls hl => ?_)
  have hP : va_P D kc_l [mo_c o mth mty x0 mat mfr mto mgd mrd x1 x2 x3 mhf mhp mcl mck mba mct x4 x5 x6 x7 x8 mst x9 x10 x11 x12 mtr mrs x13 x14 x15 x16 mwr x17 mfo, ar_n cI x4 33 fs, ar_n cI x13 8 rs, ar_n cI x14 8 im, ar_b cZ x15 8 us, ar_b cZ x16 33 (pt_lt lt (2 ^ cf))] H := by rw [← ltf_0]; exact hP
  have hD : va_D A [mo_c o mth mty x0 mat mfr mto mgd mrd x1 x2 x3 mhf mhp mcl mck mba mct x4 x5 x6 x7 x8 mst x9 x10 x11 x12 mtr mrs x13 x14 x15 x16 mwr x17 mfo, ar_n cI x4 33 fs, ar_n cI x13 8 rs, ar_n cI x14 8 im, ar_b cZ x15 8 us, ar_b cZ x16 33 (pt_lt lt (2 ^ cf))] := by rw [← ltf_0]; exact hD
  have lp_32 : ∀ (K : Nat) (k : Nat) (lk : Nat) (u : Nat) (us1 : Nat → Bool) (H : Heap) (locs : List Loc) (ls : Array Slot), k < K → va_P D kc_l [mo_c o mth mty x0 mat mfr mto mgd mrd x1 x2 x3 mhf mhp mcl mck mba mct x4 x5 x6 x7 x8 mst x9 x10 x11 x12 mtr mrs x13 x14 x15 x16 mwr x17 mfo, ar_n cI x4 33 fs, ar_n cI x13 8 rs, ar_n cI x14 8 im, ar_b cZ x15 8 us1, ar_b cZ x16 33 (pt_lt lt u)] H → va_D A [mo_c o mth mty x0 mat mfr mto mgd mrd x1 x2 x3 mhf mhp mcl mck mba mct x4 x5 x6 x7 x8 mst x9 x10 x11 x12 mtr mrs x13 x14 x15 x16 mwr x17 mfo, ar_n cI x4 33 fs, ar_n cI x13 8 rs, ar_n cI x14 8 im, ar_b cZ x15 8 us1, ar_b cZ x16 33 (pt_lt lt u)] → va_S A s.heap H locs → lv_has ls 5 [(4, .int (pt_dn k)), (3, .int (nI (lk &&& nb_op mtr))), (2, .int (nI (nb_op mtr))), (0, .ref o), (1, .int (nI cf))] → (pt_used fs rs im k u lk = pt_used fs rs im mrs (2 ^ cf) (fs cf)) → (k ≤ mrs) → (pt_flg fs rs im k lk us1 = pt_flg fs rs im mrs (fs cf) us) → W p l e ({ frames := 1, cells := 0, slots := 0, locals := 20 } : Room) s m ([.ref o, .int (nI cf)] : List Value).toArray below meth c H locs 0 0 (MQ below (kw_q none D kc_l [mo_c o mth mty x0 mat mfr mto mgd mrd x1 x2 x3 mhf mhp mcl mck mba mct x4 x5 x6 x7 x8 mst x9 x10 x11 x12 mtr mrs x13 x14 x15 x16 mwr x17 mfo, ar_n cI x4 33 fs, ar_n cI x13 8 rs, ar_n cI x14 8 im, ar_b cZ x15 8 (pt_flg fs rs im mrs (fs cf) us), ar_b cZ x16 33 (pt_lt lt (pt_used fs rs im mrs (2 ^ cf) (fs cf)))] A) ([.ref o, .int (nI cf)] : List Value).toArray s 0 0 A) (F0 m 32 ls []) := by
    intro K
    induction K with
    | zero =>
      intro k lk u us1 H locs ls hk
      exact absurd hk (Nat.not_lt_zero _)
    | succ K ih_32 =>
      intro k lk u us1 H locs ls hk hP hD hS hl h1 h2 h3
      refine lv_iload hx hb dc_Mo_use_32 (lv_at hl 0 rfl) ?_
      refine lv_if_lt hx hb dc_Mo_use_34 rfl (fun hc34 => ?_) (fun hc34 => ?_)
      · exact kw_vret hx hb hr hlocks hP hD hS dc_Mo_use_110 (by have hk0 : k = 0 := (pt_dn_p (by omega)).mp hc34; subst hk0; rw [← h1, ← h3]; rfl)
      · obtain ⟨q, rfl⟩ : ∃ q, k = q + 1 := ⟨k - 1, by have h9 : ¬ k = 0 := fun h8 => hc34 ((pt_dn_p (k := k) (by omega)).mpr h8); omega⟩
        rw [pt_dn_s] at hl
        have hqs := op_sub (hri q (by omega)).2.1 ht16 (hri q (by omega)).2.2
        refine lv_aload_n hx hb dc_Mo_use_37 rfl (lv_at hl 3 rfl) ?_
        refine va_get (ci := 10) (v := .ref x15) (C := rn_Mo) (T := fd_Mo) (N := 36) hx hb hts in_Mo hown hK hP 0 rfl rfl 31 (by decide) (hts _ wd_777) (fun _ h9 => h9) rfl dc_Mo_use_38 ?_
        refine lv_iload hx hb dc_Mo_use_41 (lv_at hl 0 rfl) ?_
        refine lv_iload_n hx hb dc_Mo_use_43 rfl (lv_at hl 1 rfl) ?_
        refine lv_aload_n hx hb dc_Mo_use_44 rfl (lv_at hl 3 rfl) ?_
        refine va_get (ci := 10) (v := .ref x14) (C := rn_Mo) (T := fd_Mo) (N := 36) hx hb hts in_Mo hown hK hP 0 rfl rfl 30 (by decide) (hts _ wd_776) (fun _ h9 => h9) rfl dc_Mo_use_45 ?_
        refine lv_iload hx hb dc_Mo_use_48 (lv_at hl 0 rfl) ?_
        refine ka_nald (t := im) hx hb hK hP 3 0 rfl rfl (j := q) (by omega) (by omega) dc_Mo_use_50 ?_
        refine kr_call1 (va_runS (As := [.int (nI (im q))]) (rest := [.int (nI (lk &&& nb_op mtr)), .int (nI q), .ref x15]) ⟨hx, hb, hml, hown, hts⟩ (ct_Mo_opposite l D cI cZ _ (im q) ((hri q (by omega)).2.1)) (cwS 1 hts (kx_gS wd_946 wd_947 wd_9 wd_948) rfl rfl rfl ⟨rfl, yd_Mo_opposite⟩ ⟨Nat.le_of_ble_eq_true rfl, Nat.le_of_ble_eq_true rfl⟩) (kp_S hP hD hK hN [] rfl rfl) rfl rfl hl.1 rfl (lv_room (Nat.le_of_ble_eq_true rfl)) dc_Mo_use_51 ⟨Nat.le_of_ble_eq_true rfl, Nat.le_of_ble_eq_true rfl⟩) ?_
        refine kn_iand hx hb dc_Mo_use_54 ?_
        refine kn_if_eq hx hb (Nat.lt_of_le_of_lt Nat.and_le_right (Nat.lt_trans (nb_op_lt (hri q (by omega)).2.1) (by decide))) dc_Mo_use_55 rfl (fun hc55 => ?_) (fun hc55 => ?_)
        · have hz : lk &&& nb_op (im q) = 0 := by rw [← and_op hqs]; exact hc55
          refine lv_iconst (v := nI 0) hx hb dc_Mo_use_62 (by decide +kernel) ?_
          refine kn_top (y := kb_i false) (by decide +kernel) ?_
          refine ka_bast (t := us1) hx hb hK hP hD hS 4 1 rfl rfl (j := q) (by omega) (by omega) dc_Mo_use_63 (ws' := [mo_c o mth mty x0 mat mfr mto mgd mrd x1 x2 x3 mhf mhp mcl mck mba mct x4 x5 x6 x7 x8 mst x9 x10 x11 x12 mtr mrs x13 x14 x15 x16 mwr x17 mfo, ar_n cI x4 33 fs, ar_n cI x13 8 rs, ar_n cI x14 8 im, ar_b cZ x15 8 (va_up us1 q false), ar_b cZ x16 33 (pt_lt lt u)]) rfl (fun H locs hP hD hS => ?_)
          refine lv_aload_n hx hb dc_Mo_use_64 rfl (lv_at hl 3 rfl) ?_
          refine va_get (ci := 10) (v := .ref x15) (C := rn_Mo) (T := fd_Mo) (N := 36) hx hb hts in_Mo hown hK hP 0 rfl rfl 31 (by decide) (hts _ wd_777) (fun _ h9 => h9) rfl dc_Mo_use_65 ?_
          refine lv_iload hx hb dc_Mo_use_68 (lv_at hl 0 rfl) ?_
          refine ka_bald (t := va_up us1 q false) hx hb hK hP 4 1 rfl rfl (j := q) (by omega) (by omega) dc_Mo_use_70 ?_
          refine kn_top (y := kb_i false) (by rw [va_up_self]) ?_
          refine kb_if_eq hx hb dc_Mo_use_71 rfl (fun hc71 => ?_) (fun hc71 => ?_)
          · refine lv_iinc (k := 0) (v := pt_dn q) (lv' := [(4, .int (pt_dn q)), (3, .int (nI (lk &&& nb_op mtr))), (2, .int (nI (nb_op mtr))), (0, .ref o), (1, .int (nI cf))]) hx hb dc_Mo_use_104 hl rfl (pt_dn_i _) (by decide) rfl (fun ls hl => ?_)
            refine lv_goto hx hb dc_Mo_use_107 rfl ?_
            exact ih_32 _ _ _ _ _ _ _ (by omega) hP hD hS hl (by rw [← h1, pt_used, if_pos hz]) (by omega) (by rw [← h3, pt_flg, if_pos hz])
          · exact absurd hc71 (by decide)
        · have hz : ¬ lk &&& nb_op (im q) = 0 := by rw [← and_op hqs]; exact hc55
          refine lv_iconst (v := nI 1) hx hb dc_Mo_use_58 (by decide +kernel) ?_
          refine lv_goto hx hb dc_Mo_use_59 rfl ?_
          refine kn_top (y := kb_i true) (by decide +kernel) ?_
          refine ka_bast (t := us1) hx hb hK hP hD hS 4 1 rfl rfl (j := q) (by omega) (by omega) dc_Mo_use_63 (ws' := [mo_c o mth mty x0 mat mfr mto mgd mrd x1 x2 x3 mhf mhp mcl mck mba mct x4 x5 x6 x7 x8 mst x9 x10 x11 x12 mtr mrs x13 x14 x15 x16 mwr x17 mfo, ar_n cI x4 33 fs, ar_n cI x13 8 rs, ar_n cI x14 8 im, ar_b cZ x15 8 (va_up us1 q true), ar_b cZ x16 33 (pt_lt lt u)]) rfl (fun H locs hP hD hS => ?_)
          refine lv_aload_n hx hb dc_Mo_use_64 rfl (lv_at hl 3 rfl) ?_
          refine va_get (ci := 10) (v := .ref x15) (C := rn_Mo) (T := fd_Mo) (N := 36) hx hb hts in_Mo hown hK hP 0 rfl rfl 31 (by decide) (hts _ wd_777) (fun _ h9 => h9) rfl dc_Mo_use_65 ?_
          refine lv_iload hx hb dc_Mo_use_68 (lv_at hl 0 rfl) ?_
          refine ka_bald (t := va_up us1 q true) hx hb hK hP 4 1 rfl rfl (j := q) (by omega) (by omega) dc_Mo_use_70 ?_
          refine kn_top (y := kb_i true) (by rw [va_up_self]) ?_
          refine kb_if_eq hx hb dc_Mo_use_71 rfl (fun hc71 => ?_) (fun hc71 => ?_)
          · exact absurd hc71 (by decide)
          · refine lv_iload_n hx hb dc_Mo_use_74 rfl (lv_at hl 1 rfl) ?_
            refine lv_aload_n hx hb dc_Mo_use_75 rfl (lv_at hl 3 rfl) ?_
            refine va_get (ci := 10) (v := .ref x4) (C := rn_Mo) (T := fd_Mo) (N := 36) hx hb hts in_Mo hown hK hP 0 rfl rfl 17 (by decide) (hts _ wd_763) (fun _ h9 => h9) rfl dc_Mo_use_76 ?_
            refine lv_aload_n hx hb dc_Mo_use_79 rfl (lv_at hl 3 rfl) ?_
            refine va_get (ci := 10) (v := .ref x13) (C := rn_Mo) (T := fd_Mo) (N := 36) hx hb hts in_Mo hown hK hP 0 rfl rfl 29 (by decide) (hts _ wd_775) (fun _ h9 => h9) rfl dc_Mo_use_80 ?_
            refine lv_iload hx hb dc_Mo_use_83 (lv_at hl 0 rfl) ?_
            refine ka_nald (t := rs) hx hb hK hP 2 0 rfl rfl (j := q) (by omega) (by omega) dc_Mo_use_85 ?_
            refine ka_nald (t := fs) hx hb hK hP 1 0 rfl rfl (j := rs q) (by have := (hri q (by omega)).1; omega) (by omega) dc_Mo_use_86 ?_
            refine lv_iload_n hx hb dc_Mo_use_87 rfl (lv_at hl 2 rfl) ?_
            refine kn_iand hx hb dc_Mo_use_88 ?_
            refine kn_ior hx hb dc_Mo_use_89 ?_
            refine kn_top (y := nI ((lk ||| fs (rs q)) &&& nb_op mtr)) (congrArg nI (and_or_r _ _ _)) ?_
            refine lv_istore_n (lv' := [(3, .int (nI ((lk ||| fs (rs q)) &&& nb_op mtr))), (4, .int (nI q)), (2, .int (nI (nb_op mtr))), (0, .ref o), (1, .int (nI cf))]) hx hb dc_Mo_use_90 rfl hl (by decide) rfl (fun ls hl => ?_)
            refine lv_aload_n hx hb dc_Mo_use_91 rfl (lv_at hl 3 rfl) ?_
            refine va_get (ci := 10) (v := .ref x16) (C := rn_Mo) (T := fd_Mo) (N := 36) hx hb hts in_Mo hown hK hP 0 rfl rfl 32 (by decide) (hts _ wd_778) (fun _ h9 => h9) rfl dc_Mo_use_92 ?_
            refine lv_aload_n hx hb dc_Mo_use_95 rfl (lv_at hl 3 rfl) ?_
            refine va_get (ci := 10) (v := .ref x13) (C := rn_Mo) (T := fd_Mo) (N := 36) hx hb hts in_Mo hown hK hP 0 rfl rfl 29 (by decide) (hts _ wd_775) (fun _ h9 => h9) rfl dc_Mo_use_96 ?_
            refine lv_iload hx hb dc_Mo_use_99 (lv_at hl 1 rfl) ?_
            refine ka_nald (t := rs) hx hb hK hP 2 0 rfl rfl (j := q) (by omega) (by omega) dc_Mo_use_101 ?_
            refine lv_iconst (v := nI 1) hx hb dc_Mo_use_102 (by decide +kernel) ?_
            refine kn_top (y := kb_i true) (by decide +kernel) ?_
            refine ka_bast (t := pt_lt lt u) hx hb hK hP hD hS 5 1 rfl rfl (j := rs q) (by have := (hri q (by omega)).1; omega) (by omega) dc_Mo_use_103 (ws' := [mo_c o mth mty x0 mat mfr mto mgd mrd x1 x2 x3 mhf mhp mcl mck mba mct x4 x5 x6 x7 x8 mst x9 x10 x11 x12 mtr mrs x13 x14 x15 x16 mwr x17 mfo, ar_n cI x4 33 fs, ar_n cI x13 8 rs, ar_n cI x14 8 im, ar_b cZ x15 8 (va_up us1 q true), ar_b cZ x16 33 (va_up (pt_lt lt u) (rs q) true)]) rfl (fun H locs hP hD hS => ?_)
            have hP : va_P D kc_l [mo_c o mth mty x0 mat mfr mto mgd mrd x1 x2 x3 mhf mhp mcl mck mba mct x4 x5 x6 x7 x8 mst x9 x10 x11 x12 mtr mrs x13 x14 x15 x16 mwr x17 mfo, ar_n cI x4 33 fs, ar_n cI x13 8 rs, ar_n cI x14 8 im, ar_b cZ x15 8 (va_up us1 q true), ar_b cZ x16 33 (pt_lt lt (u ||| 2 ^ (rs q)))] H := by rw [← ltf_s]; exact hP
            have hD : va_D A [mo_c o mth mty x0 mat mfr mto mgd mrd x1 x2 x3 mhf mhp mcl mck mba mct x4 x5 x6 x7 x8 mst x9 x10 x11 x12 mtr mrs x13 x14 x15 x16 mwr x17 mfo, ar_n cI x4 33 fs, ar_n cI x13 8 rs, ar_n cI x14 8 im, ar_b cZ x15 8 (va_up us1 q true), ar_b cZ x16 33 (pt_lt lt (u ||| 2 ^ (rs q)))] := by rw [← ltf_s]; exact hD
            refine lv_iinc (k := 1) (v := pt_dn q) (lv' := [(4, .int (pt_dn q)), (3, .int (nI ((lk ||| fs (rs q)) &&& nb_op mtr))), (2, .int (nI (nb_op mtr))), (0, .ref o), (1, .int (nI cf))]) hx hb dc_Mo_use_104 hl rfl (pt_dn_i _) (by decide) rfl (fun ls hl => ?_)
            refine lv_goto hx hb dc_Mo_use_107 rfl ?_
            exact ih_32 _ _ _ _ _ _ _ (by omega) hP hD hS hl (by rw [← h1, pt_used, if_neg hz]) (by omega) (by rw [← h3, pt_flg, if_neg hz])
  exact lp_32 _ mrs (fs cf) (2 ^ cf) us _ _ _ (Nat.lt_succ_self _) hP hD hS hl (rfl) (by omega) (rfl)

set_option maxHeartbeats 4000000 in
set_option maxRecDepth 100000 in
theorem ct_Mo_say (l : Launch) (D : va_G) (cI cZ : ClassId) (sz : Nat) (o : Nat) (mth : Nat) (mty : Nat) (x0 : Nat) (mat : Nat) (mfr : Nat) (mto : Nat) (mgd : Bool) (mrd : Nat) (x1 : Nat) (x2 : Nat) (x3 : Nat) (mhf : Bool) (mhp : Bool) (mcl : Bool) (mck : Bool) (mba : Nat) (mct : Nat) (x4 : Nat) (x5 : Nat) (x6 : Nat) (x7 : Nat) (x8 : Nat) (mst : Nat) (x9 : Nat) (x10 : Nat) (x11 : Nat) (x12 : Nat) (mtr : Nat) (mrs : Nat) (x13 : Nat) (x14 : Nat) (x15 : Nat) (x16 : Nat) (mwr : Nat) (x17 : Nat) (mfo : Nat) (hc : Nat → Nat) (hh : Nat → Int32) (j : Nat) (x : Int32) (hj1 : mba < j) (hj2 : j ≤ 32) (hj3 : j ≤ mba + 16) (hh4 : hc j < 400) : Met l yn_Mo_say (Cond.code yn_Mo_say bc_Mo_say 3 none :: kx_all) ({ frames := 0, cells := 0, slots := 0, locals := 0 } : Room) (kp [.ref o, .int (nI j), .int x] D cI cZ [mo_c o mth mty x0 mat mfr mto mgd mrd x1 x2 x3 mhf mhp mcl mck mba mct x4 x5 x6 x7 x8 mst x9 x10 x11 x12 mtr mrs x13 x14 x15 x16 mwr x17 mfo, ar_n cI x11 33 hc, ar_i cI x12 6400 hh] sz) (kw_q none D kc_l [mo_c o mth mty x0 mat mfr mto mgd mrd x1 x2 x3 mhf mhp mcl mck mba mct x4 x5 x6 x7 x8 mst x9 x10 x11 x12 mtr mrs x13 x14 x15 x16 mwr x17 mfo, ar_n cI x11 33 (va_up hc j (hc j + 1)), ar_i cI x12 6400 (upd hh (400 * (j - mba - 1) + hc j) x)] (va_A [mo_c o mth mty x0 mat mfr mto mgd mrd x1 x2 x3 mhf mhp mcl mck mba mct x4 x5 x6 x7 x8 mst x9 x10 x11 x12 mtr mrs x13 x14 x15 x16 mwr x17 mfo, ar_n cI x11 33 hc, ar_i cI x12 6400 hh] sz)) 0 0 (va_A [mo_c o mth mty x0 mat mfr mto mgd mrd x1 x2 x3 mhf mhp mcl mck mba mct x4 x5 x6 x7 x8 mst x9 x10 x11 x12 mtr mrs x13 x14 x15 x16 mwr x17 mfo, ar_n cI x11 33 hc, ar_i cI x12 6400 hh] sz) := by
  refine kx_metW (by decide) (Nat.le_of_ble_eq_true rfl) ?_
  intro p e s m below meth c ls A hx hb hr hml hts hown hlocks hin hA hP hK hD hN hl hS
  have hown : s.vm.findClass rn_Mo = some m.cls := hown
  have hl : lv_has ls 3 [(0, .ref o), (1, .int (nI j)), (2, .int x)] := hl
  refine lv_aload_n hx hb dc_Mo_say_0 rfl (lv_at hl 0 rfl) ?_
  refine va_get (ci := 10) (v := .ref x12) (C := rn_Mo) (T := fd_Mo) (N := 36) hx hb hts in_Mo hown hK hP 0 rfl rfl 26 (by decide) (hts _ wd_772) (fun _ h9 => h9) rfl dc_Mo_say_1 ?_
  refine lv_sipush (v := nI 400) hx hb dc_Mo_say_4 (by decide +kernel) ?_
  refine lv_iload_n hx hb dc_Mo_say_7 rfl (lv_at hl 1 rfl) ?_
  refine lv_aload_n hx hb dc_Mo_say_8 rfl (lv_at hl 0 rfl) ?_
  refine va_get (ci := 10) (v := .int (nI mba)) (C := rn_Mo) (T := fd_Mo) (N := 36) hx hb hts in_Mo hown hK hP 0 rfl rfl 15 (by decide) (hts _ wd_761) (fun _ h9 => h9) rfl dc_Mo_say_9 ?_
  refine kn_isub hx hb (by omega) dc_Mo_say_12 ?_
  refine lv_iconst (v := nI 1) hx hb dc_Mo_say_13 (by decide +kernel) ?_
  refine kn_isub hx hb (by omega) dc_Mo_say_14 ?_
  refine kn_imul hx hb dc_Mo_say_15 ?_
  refine lv_aload_n hx hb dc_Mo_say_16 rfl (lv_at hl 0 rfl) ?_
  refine va_get (ci := 10) (v := .ref x11) (C := rn_Mo) (T := fd_Mo) (N := 36) hx hb hts in_Mo hown hK hP 0 rfl rfl 25 (by decide) (hts _ wd_771) (fun _ h9 => h9) rfl dc_Mo_say_17 ?_
  refine lv_iload_n hx hb dc_Mo_say_20 rfl (lv_at hl 1 rfl) ?_
  refine ka_nald (t := hc) hx hb hK hP 1 0 rfl rfl (j := j) (by omega) (by omega) dc_Mo_say_21 ?_
  refine kn_iadd hx hb dc_Mo_say_22 ?_
  refine lv_iload_n hx hb dc_Mo_say_23 rfl (lv_at hl 2 rfl) ?_
  refine ka_iast (f := hh) hx hb hK hP hD hS 2 0 rfl rfl (j := (400 * ((j - mba) - 1)) + (hc j)) (by omega) (by omega) dc_Mo_say_24 (ws' := [mo_c o mth mty x0 mat mfr mto mgd mrd x1 x2 x3 mhf mhp mcl mck mba mct x4 x5 x6 x7 x8 mst x9 x10 x11 x12 mtr mrs x13 x14 x15 x16 mwr x17 mfo, ar_n cI x11 33 hc, ar_i cI x12 6400 (upd hh ((400 * ((j - mba) - 1)) + (hc j)) x)]) rfl (fun H locs hP hD hS => ?_)
  refine lv_aload_n hx hb dc_Mo_say_25 rfl (lv_at hl 0 rfl) ?_
  refine va_get (ci := 10) (v := .ref x11) (C := rn_Mo) (T := fd_Mo) (N := 36) hx hb hts in_Mo hown hK hP 0 rfl rfl 25 (by decide) (hts _ wd_771) (fun _ h9 => h9) rfl dc_Mo_say_26 ?_
  refine lv_iload_n hx hb dc_Mo_say_29 rfl (lv_at hl 1 rfl) ?_
  refine lv_dup2_11 hx hb dc_Mo_say_30 rfl rfl ?_
  refine ka_nald (t := hc) hx hb hK hP 1 0 rfl rfl (j := j) (by omega) (by omega) dc_Mo_say_31 ?_
  refine lv_iconst (v := nI 1) hx hb dc_Mo_say_32 (by decide +kernel) ?_
  refine kn_iadd hx hb dc_Mo_say_33 ?_
  refine ka_nast (t := hc) hx hb hK hP hD hS 1 0 rfl rfl (j := j) (by omega) (by omega) dc_Mo_say_34 (ws' := [mo_c o mth mty x0 mat mfr mto mgd mrd x1 x2 x3 mhf mhp mcl mck mba mct x4 x5 x6 x7 x8 mst x9 x10 x11 x12 mtr mrs x13 x14 x15 x16 mwr x17 mfo, ar_n cI x11 33 (va_up hc j ((hc j) + 1)), ar_i cI x12 6400 (upd hh ((400 * ((j - mba) - 1)) + (hc j)) x)]) rfl (fun H locs hP hD hS => ?_)
  exact kw_vret hx hb hr hlocks hP hD hS dc_Mo_say_35 (rfl)

set_option maxHeartbeats 4000000 in
set_option maxRecDepth 100000 in
theorem ct_Mo_sayUsed (l : Launch) (D : va_G) (cI cZ : ClassId) (sz : Nat) (o : Nat) (mth : Nat) (mty : Nat) (x0 : Nat) (mat : Nat) (mfr : Nat) (mto : Nat) (mgd : Bool) (mrd : Nat) (x1 : Nat) (x2 : Nat) (x3 : Nat) (mhf : Bool) (mhp : Bool) (mcl : Bool) (mck : Bool) (mba : Nat) (mct : Nat) (x4 : Nat) (x5 : Nat) (x6 : Nat) (x7 : Nat) (x8 : Nat) (mst : Nat) (x9 : Nat) (x10 : Nat) (x11 : Nat) (x12 : Nat) (mtr : Nat) (mrs : Nat) (x13 : Nat) (x14 : Nat) (x15 : Nat) (x16 : Nat) (mwr : Nat) (x17 : Nat) (mfo : Nat) (rs : Nat → Nat) (us : Nat → Bool) (hc : Nat → Nat) (hh : Nat → Int32) (j : Nat) (a : Nat) (cf : Nat) (u : Nat) (hj1 : mba < j) (hj2 : j ≤ 32) (hj3 : j ≤ mba + 16) (hn8 : mrs ≤ 8) (han : a ≤ mrs) (hcf : cf ≤ 32) (hus : ∀ i, a ≤ i → i < mrs → us i = u.testBit (rs i)) (hfit : hc j + (pt_exs rs u a (mrs - a)).length < 400) : Met l yn_Mo_sayUsed (Cond.code yn_Mo_sayUsed bc_Mo_sayUsed 5 none :: kx_all) ({ frames := 1, cells := 0, slots := 0, locals := 22 } : Room) (kp [.ref o, .int (nI j), .int (nI a), .int (nI cf)] D cI cZ [mo_c o mth mty x0 mat mfr mto mgd mrd x1 x2 x3 mhf mhp mcl mck mba mct x4 x5 x6 x7 x8 mst x9 x10 x11 x12 mtr mrs x13 x14 x15 x16 mwr x17 mfo, ar_n cI x13 8 rs, ar_b cZ x15 8 us, ar_n cI x11 33 hc, ar_i cI x12 6400 hh] sz) (kw_q none D kc_l [mo_c o mth mty x0 mat mfr mto mgd mrd x1 x2 x3 mhf mhp mcl mck mba mct x4 x5 x6 x7 x8 mst x9 x10 x11 x12 mtr mrs x13 x14 x15 x16 mwr x17 mfo, ar_n cI x13 8 rs, ar_b cZ x15 8 us, ar_n cI x11 33 (va_up hc j (hc j + (pt_exs rs u a (mrs - a) ++ [nI cf]).length)), ar_i cI x12 6400 (pt_put hh (400 * (j - mba - 1) + hc j) (pt_exs rs u a (mrs - a) ++ [nI cf]))] (va_A [mo_c o mth mty x0 mat mfr mto mgd mrd x1 x2 x3 mhf mhp mcl mck mba mct x4 x5 x6 x7 x8 mst x9 x10 x11 x12 mtr mrs x13 x14 x15 x16 mwr x17 mfo, ar_n cI x13 8 rs, ar_b cZ x15 8 us, ar_n cI x11 33 hc, ar_i cI x12 6400 hh] sz)) 0 0 (va_A [mo_c o mth mty x0 mat mfr mto mgd mrd x1 x2 x3 mhf mhp mcl mck mba mct x4 x5 x6 x7 x8 mst x9 x10 x11 x12 mtr mrs x13 x14 x15 x16 mwr x17 mfo, ar_n cI x13 8 rs, ar_b cZ x15 8 us, ar_n cI x11 33 hc, ar_i cI x12 6400 hh] sz) := by
  refine kx_metW (by decide) (Nat.le_of_ble_eq_true rfl) ?_
  intro p e s m below meth c ls A hx hb hr hml hts hown hlocks hin hA hP hK hD hN hl hS
  have hown : s.vm.findClass rn_Mo = some m.cls := hown
  have hl : lv_has ls 5 [(0, .ref o), (1, .int (nI j)), (2, .int (nI a)), (3, .int (nI cf))] := hl
  refine lv_iload_n hx hb dc_Mo_sayUsed_0 rfl (lv_at hl 2 rfl) ?_
  refine lv_istore (lv' := [(4, .int (nI a)), (0, .ref o), (1, .int (nI j)), (2, .int (nI a)), (3, .int (nI cf))]) hx hb dc_Mo_sayUsed_1 hl (by decide) rfl (fun ls hl => ?_)
  have hP : va_P D kc_l [mo_c o mth mty x0 mat mfr mto mgd mrd x1 x2 x3 mhf mhp mcl mck mba mct x4 x5 x6 x7 x8 mst x9 x10 x11 x12 mtr mrs x13 x14 x15 x16 mwr x17 mfo, ar_n cI x13 8 rs, ar_b cZ x15 8 us, ar_n cI x11 33 (va_up hc j (hc j + (pt_exs rs u a (a - a)).length)), ar_i cI x12 6400 (pt_put hh (400 * (j - mba - 1) + hc j) (pt_exs rs u a (a - a)))] s.heap := by rw [Nat.sub_self, show pt_exs rs u a 0 = [] from rfl, cnt_0, put_0]; exact hP
  have hD : va_D A [mo_c o mth mty x0 mat mfr mto mgd mrd x1 x2 x3 mhf mhp mcl mck mba mct x4 x5 x6 x7 x8 mst x9 x10 x11 x12 mtr mrs x13 x14 x15 x16 mwr x17 mfo, ar_n cI x13 8 rs, ar_b cZ x15 8 us, ar_n cI x11 33 (va_up hc j (hc j + (pt_exs rs u a (a - a)).length)), ar_i cI x12 6400 (pt_put hh (400 * (j - mba - 1) + hc j) (pt_exs rs u a (a - a)))] := by rw [Nat.sub_self, show pt_exs rs u a 0 = [] from rfl, cnt_0, put_0]; exact hD
  have lp_3 : ∀ (K : Nat) (i : Nat) (H : Heap) (locs : List Loc) (ls : Array Slot), mrs - i < K → va_P D kc_l [mo_c o mth mty x0 mat mfr mto mgd mrd x1 x2 x3 mhf mhp mcl mck mba mct x4 x5 x6 x7 x8 mst x9 x10 x11 x12 mtr mrs x13 x14 x15 x16 mwr x17 mfo, ar_n cI x13 8 rs, ar_b cZ x15 8 us, ar_n cI x11 33 (va_up hc j (hc j + (pt_exs rs u a (i - a)).length)), ar_i cI x12 6400 (pt_put hh (400 * (j - mba - 1) + hc j) (pt_exs rs u a (i - a)))] H → va_D A [mo_c o mth mty x0 mat mfr mto mgd mrd x1 x2 x3 mhf mhp mcl mck mba mct x4 x5 x6 x7 x8 mst x9 x10 x11 x12 mtr mrs x13 x14 x15 x16 mwr x17 mfo, ar_n cI x13 8 rs, ar_b cZ x15 8 us, ar_n cI x11 33 (va_up hc j (hc j + (pt_exs rs u a (i - a)).length)), ar_i cI x12 6400 (pt_put hh (400 * (j - mba - 1) + hc j) (pt_exs rs u a (i - a)))] → va_S A s.heap H locs → lv_has ls 5 [(4, .int (nI i)), (0, .ref o), (1, .int (nI j)), (2, .int (nI a)), (3, .int (nI cf))] → (a ≤ i ∧ i ≤ mrs) → W p l e ({ frames := 1, cells := 0, slots := 0, locals := 22 } : Room) s m ([.ref o, .int (nI j), .int (nI a), .int (nI cf)] : List Value).toArray below meth c H locs 0 0 (MQ below (kw_q none D kc_l [mo_c o mth mty x0 mat mfr mto mgd mrd x1 x2 x3 mhf mhp mcl mck mba mct x4 x5 x6 x7 x8 mst x9 x10 x11 x12 mtr mrs x13 x14 x15 x16 mwr x17 mfo, ar_n cI x13 8 rs, ar_b cZ x15 8 us, ar_n cI x11 33 (va_up hc j (hc j + (pt_exs rs u a (mrs - a) ++ [nI cf]).length)), ar_i cI x12 6400 (pt_put hh (400 * (j - mba - 1) + hc j) (pt_exs rs u a (mrs - a) ++ [nI cf]))] A) ([.ref o, .int (nI j), .int (nI a), .int (nI cf)] : List Value).toArray s 0 0 A) (F0 m 3 ls []) := by
    intro K
    induction K with
    | zero =>
      intro i H locs ls hk
      exact absurd hk (Nat.not_lt_zero _)
    | succ K ih_3 =>
      intro i H locs ls hk hP hD hS hl h2
      refine lv_iload hx hb dc_Mo_sayUsed_3 (lv_at hl 0 rfl) ?_
      refine lv_aload_n hx hb dc_Mo_sayUsed_5 rfl (lv_at hl 1 rfl) ?_
      refine va_get (ci := 10) (v := .int (nI mrs)) (C := rn_Mo) (T := fd_Mo) (N := 36) hx hb hts in_Mo hown hK hP 0 rfl rfl 28 (by decide) (hts _ wd_774) (fun _ h9 => h9) rfl dc_Mo_sayUsed_6 ?_
      refine kn_icmp_ge hx hb (by omega) (by omega) dc_Mo_sayUsed_9 rfl (fun hc9 => ?_) (fun hc9 => ?_)
      · refine lv_aload_n hx hb dc_Mo_sayUsed_40 rfl (lv_at hl 1 rfl) ?_
        refine lv_iload_n hx hb dc_Mo_sayUsed_41 rfl (lv_at hl 2 rfl) ?_
        refine lv_iload_n hx hb dc_Mo_sayUsed_42 rfl (lv_at hl 4 rfl) ?_
        refine kw_call0 (wr := [ar_n cI x13 8 rs, ar_b cZ x15 8 us]) (ws' := [mo_c o mth mty x0 mat mfr mto mgd mrd x1 x2 x3 mhf mhp mcl mck mba mct x4 x5 x6 x7 x8 mst x9 x10 x11 x12 mtr mrs x13 x14 x15 x16 mwr x17 mfo, ar_n cI x13 8 rs, ar_b cZ x15 8 us, ar_n cI x11 33 (va_up (va_up hc j (hc j + (pt_exs rs u a (i - a)).length)) j ((va_up hc j (hc j + (pt_exs rs u a (i - a)).length)) j + 1)), ar_i cI x12 6400 (upd (pt_put hh (400 * (j - mba - 1) + hc j) (pt_exs rs u a (i - a))) (400 * (j - mba - 1) + (va_up hc j (hc j + (pt_exs rs u a (i - a)).length)) j) (nI cf))]) (va_runV (As := [.int (nI j), .int (nI cf)]) (rest := []) ⟨hx, hb, hml, hown, hts⟩ (ct_Mo_say l D cI cZ _ o mth mty x0 mat mfr mto mgd mrd x1 x2 x3 mhf mhp mcl mck mba mct x4 x5 x6 x7 x8 mst x9 x10 x11 x12 mtr mrs x13 x14 x15 x16 mwr x17 mfo (va_up hc j (hc j + (pt_exs rs u a (i - a)).length)) (pt_put hh (400 * (j - mba - 1) + hc j) (pt_exs rs u a (i - a))) j (nI cf) (by omega) (by omega) (by omega) (by rw [va_up_self]; have h9 := exs_mono (rs := rs) (u := u) (a := a) (i := i) (n := mrs) (by omega); omega)) (cwV 2 hts (kx_gV wd_972 wd_974 (kx_sel (q := (yn_Mo_say, 36)) (List.mem_append_right _ (List.mem_append_right _ (List.mem_of_getElem? (i := 0) rfl)))) wd_9 wd_975) rfl rfl rfl ⟨rfl, yd_Mo_say⟩ ⟨Nat.le_of_ble_eq_true rfl, Nat.le_of_ble_eq_true rfl⟩) (kp_V (q0 := 0) (ci := 10) hP hD hK hN [0, 3, 4] rfl rfl rfl rfl rfl) rfl rfl hl.1 rfl (lv_room (Nat.le_of_ble_eq_true rfl)) dc_Mo_sayUsed_43 ⟨Nat.le_of_ble_eq_true rfl, Nat.le_of_ble_eq_true rfl⟩) hP hD hS hA [0, 3, 4] [1, 2] [2, 0, 1, 3, 4] rfl rfl rfl (by decide) rfl rfl (fun H locs hP hD hS => ?_)
        have hP : va_P D kc_l [mo_c o mth mty x0 mat mfr mto mgd mrd x1 x2 x3 mhf mhp mcl mck mba mct x4 x5 x6 x7 x8 mst x9 x10 x11 x12 mtr mrs x13 x14 x15 x16 mwr x17 mfo, ar_n cI x13 8 rs, ar_b cZ x15 8 us, ar_n cI x11 33 (va_up (va_up hc j (hc j + (pt_exs rs u a (i - a)).length)) j ((va_up hc j (hc j + (pt_exs rs u a (i - a)).length)) j + 1)), ar_i cI x12 6400 (upd (pt_put hh (400 * (j - mba - 1) + hc j) (pt_exs rs u a (i - a))) ((400 * (j - mba - 1) + hc j) + (pt_exs rs u a (i - a)).length) (nI cf))] H := by rw [show (400 * (j - mba - 1) + hc j) + (pt_exs rs u a (i - a)).length = 400 * (j - mba - 1) + va_up hc j (hc j + (pt_exs rs u a (i - a)).length) j by rw [va_up_self]; omega]; exact hP
        have hD : va_D A [mo_c o mth mty x0 mat mfr mto mgd mrd x1 x2 x3 mhf mhp mcl mck mba mct x4 x5 x6 x7 x8 mst x9 x10 x11 x12 mtr mrs x13 x14 x15 x16 mwr x17 mfo, ar_n cI x13 8 rs, ar_b cZ x15 8 us, ar_n cI x11 33 (va_up (va_up hc j (hc j + (pt_exs rs u a (i - a)).length)) j ((va_up hc j (hc j + (pt_exs rs u a (i - a)).length)) j + 1)), ar_i cI x12 6400 (upd (pt_put hh (400 * (j - mba - 1) + hc j) (pt_exs rs u a (i - a))) ((400 * (j - mba - 1) + hc j) + (pt_exs rs u a (i - a)).length) (nI cf))] := by rw [show (400 * (j - mba - 1) + hc j) + (pt_exs rs u a (i - a)).length = 400 * (j - mba - 1) + va_up hc j (hc j + (pt_exs rs u a (i - a)).length) j by rw [va_up_self]; omega]; exact hD
        exact kw_vret hx hb hr hlocks hP hD hS dc_Mo_sayUsed_46 (by rw [show i = mrs by omega, cnt_s, put_s])
      · refine lv_aload_n hx hb dc_Mo_sayUsed_12 rfl (lv_at hl 1 rfl) ?_
        refine va_get (ci := 10) (v := .ref x15) (C := rn_Mo) (T := fd_Mo) (N := 36) hx hb hts in_Mo hown hK hP 0 rfl rfl 31 (by decide) (hts _ wd_777) (fun _ h9 => h9) rfl dc_Mo_sayUsed_13 ?_
        refine lv_iload hx hb dc_Mo_sayUsed_16 (lv_at hl 0 rfl) ?_
        refine ka_bald (t := us) hx hb hK hP 2 1 rfl rfl (j := i) (by omega) (by omega) dc_Mo_sayUsed_18 ?_
        refine kb_if_eq hx hb dc_Mo_sayUsed_19 rfl (fun hc19 => ?_) (fun hc19 => ?_)
        · have hub : ¬ u.testBit (rs i) = true := by rw [← hus i (by omega) (by omega), hc19]; decide
          refine lv_iinc (k := 0) (v := nI (i + 1)) (lv' := [(4, .int (nI (i + 1))), (0, .ref o), (1, .int (nI j)), (2, .int (nI a)), (3, .int (nI cf))]) hx hb dc_Mo_sayUsed_34 hl rfl (nI_1 _) (by decide) rfl (fun ls hl => ?_)
          refine lv_goto hx hb dc_Mo_sayUsed_37 rfl ?_
          have hP : va_P D kc_l [mo_c o mth mty x0 mat mfr mto mgd mrd x1 x2 x3 mhf mhp mcl mck mba mct x4 x5 x6 x7 x8 mst x9 x10 x11 x12 mtr mrs x13 x14 x15 x16 mwr x17 mfo, ar_n cI x13 8 rs, ar_b cZ x15 8 us, ar_n cI x11 33 (va_up hc j (hc j + (pt_exs rs u a (i + 1 - a)).length)), ar_i cI x12 6400 (pt_put hh (400 * (j - mba - 1) + hc j) (pt_exs rs u a (i + 1 - a)))] H := by rw [ex_st h2.1, if_neg hub, List.append_nil]; exact hP
          have hD : va_D A [mo_c o mth mty x0 mat mfr mto mgd mrd x1 x2 x3 mhf mhp mcl mck mba mct x4 x5 x6 x7 x8 mst x9 x10 x11 x12 mtr mrs x13 x14 x15 x16 mwr x17 mfo, ar_n cI x13 8 rs, ar_b cZ x15 8 us, ar_n cI x11 33 (va_up hc j (hc j + (pt_exs rs u a (i + 1 - a)).length)), ar_i cI x12 6400 (pt_put hh (400 * (j - mba - 1) + hc j) (pt_exs rs u a (i + 1 - a)))] := by rw [ex_st h2.1, if_neg hub, List.append_nil]; exact hD
          exact ih_3 _ _ _ _ (by omega) hP hD hS hl (by omega)
        · have hub : u.testBit (rs i) = true := by rw [← hus i (by omega) (by omega)]; exact hc19
          have h9 := exs_mono (rs := rs) (u := u) (a := a) (i := i + 1) (n := mrs) (by omega)
          rw [ex_st h2.1, if_pos hub, List.length_append] at h9
          simp only [List.length_singleton] at h9
          refine lv_aload_n hx hb dc_Mo_sayUsed_22 rfl (lv_at hl 1 rfl) ?_
          refine lv_iload_n hx hb dc_Mo_sayUsed_23 rfl (lv_at hl 2 rfl) ?_
          refine lv_aload_n hx hb dc_Mo_sayUsed_24 rfl (lv_at hl 1 rfl) ?_
          refine va_get (ci := 10) (v := .ref x13) (C := rn_Mo) (T := fd_Mo) (N := 36) hx hb hts in_Mo hown hK hP 0 rfl rfl 29 (by decide) (hts _ wd_775) (fun _ h9 => h9) rfl dc_Mo_sayUsed_25 ?_
          refine lv_iload hx hb dc_Mo_sayUsed_28 (lv_at hl 0 rfl) ?_
          refine ka_nald (t := rs) hx hb hK hP 1 0 rfl rfl (j := i) (by omega) (by omega) dc_Mo_sayUsed_30 ?_
          refine kw_call0 (wr := [ar_n cI x13 8 rs, ar_b cZ x15 8 us]) (ws' := [mo_c o mth mty x0 mat mfr mto mgd mrd x1 x2 x3 mhf mhp mcl mck mba mct x4 x5 x6 x7 x8 mst x9 x10 x11 x12 mtr mrs x13 x14 x15 x16 mwr x17 mfo, ar_n cI x13 8 rs, ar_b cZ x15 8 us, ar_n cI x11 33 (va_up (va_up hc j (hc j + (pt_exs rs u a (i - a)).length)) j ((va_up hc j (hc j + (pt_exs rs u a (i - a)).length)) j + 1)), ar_i cI x12 6400 (upd (pt_put hh (400 * (j - mba - 1) + hc j) (pt_exs rs u a (i - a))) (400 * (j - mba - 1) + (va_up hc j (hc j + (pt_exs rs u a (i - a)).length)) j) (nI (rs i)))]) (va_runV (As := [.int (nI j), .int (nI (rs i))]) (rest := []) ⟨hx, hb, hml, hown, hts⟩ (ct_Mo_say l D cI cZ _ o mth mty x0 mat mfr mto mgd mrd x1 x2 x3 mhf mhp mcl mck mba mct x4 x5 x6 x7 x8 mst x9 x10 x11 x12 mtr mrs x13 x14 x15 x16 mwr x17 mfo (va_up hc j (hc j + (pt_exs rs u a (i - a)).length)) (pt_put hh (400 * (j - mba - 1) + hc j) (pt_exs rs u a (i - a))) j (nI (rs i)) (by omega) (by omega) (by omega) (by rw [va_up_self]; omega)) (cwV 2 hts (kx_gV wd_972 wd_974 (kx_sel (q := (yn_Mo_say, 36)) (List.mem_append_right _ (List.mem_append_right _ (List.mem_of_getElem? (i := 0) rfl)))) wd_9 wd_975) rfl rfl rfl ⟨rfl, yd_Mo_say⟩ ⟨Nat.le_of_ble_eq_true rfl, Nat.le_of_ble_eq_true rfl⟩) (kp_V (q0 := 0) (ci := 10) hP hD hK hN [0, 3, 4] rfl rfl rfl rfl rfl) rfl rfl hl.1 rfl (lv_room (Nat.le_of_ble_eq_true rfl)) dc_Mo_sayUsed_31 ⟨Nat.le_of_ble_eq_true rfl, Nat.le_of_ble_eq_true rfl⟩) hP hD hS hA [0, 3, 4] [1, 2] [2, 0, 1, 3, 4] rfl rfl rfl (by decide) rfl rfl (fun H locs hP hD hS => ?_)
          have hP : va_P D kc_l [mo_c o mth mty x0 mat mfr mto mgd mrd x1 x2 x3 mhf mhp mcl mck mba mct x4 x5 x6 x7 x8 mst x9 x10 x11 x12 mtr mrs x13 x14 x15 x16 mwr x17 mfo, ar_n cI x13 8 rs, ar_b cZ x15 8 us, ar_n cI x11 33 (va_up (va_up hc j (hc j + (pt_exs rs u a (i - a)).length)) j ((va_up hc j (hc j + (pt_exs rs u a (i - a)).length)) j + 1)), ar_i cI x12 6400 (upd (pt_put hh (400 * (j - mba - 1) + hc j) (pt_exs rs u a (i - a))) ((400 * (j - mba - 1) + hc j) + (pt_exs rs u a (i - a)).length) (nI (rs i)))] H := by rw [show (400 * (j - mba - 1) + hc j) + (pt_exs rs u a (i - a)).length = 400 * (j - mba - 1) + va_up hc j (hc j + (pt_exs rs u a (i - a)).length) j by rw [va_up_self]; omega]; exact hP
          have hD : va_D A [mo_c o mth mty x0 mat mfr mto mgd mrd x1 x2 x3 mhf mhp mcl mck mba mct x4 x5 x6 x7 x8 mst x9 x10 x11 x12 mtr mrs x13 x14 x15 x16 mwr x17 mfo, ar_n cI x13 8 rs, ar_b cZ x15 8 us, ar_n cI x11 33 (va_up (va_up hc j (hc j + (pt_exs rs u a (i - a)).length)) j ((va_up hc j (hc j + (pt_exs rs u a (i - a)).length)) j + 1)), ar_i cI x12 6400 (upd (pt_put hh (400 * (j - mba - 1) + hc j) (pt_exs rs u a (i - a))) ((400 * (j - mba - 1) + hc j) + (pt_exs rs u a (i - a)).length) (nI (rs i)))] := by rw [show (400 * (j - mba - 1) + hc j) + (pt_exs rs u a (i - a)).length = 400 * (j - mba - 1) + va_up hc j (hc j + (pt_exs rs u a (i - a)).length) j by rw [va_up_self]; omega]; exact hD
          refine lv_iinc (k := 0) (v := nI (i + 1)) (lv' := [(4, .int (nI (i + 1))), (0, .ref o), (1, .int (nI j)), (2, .int (nI a)), (3, .int (nI cf))]) hx hb dc_Mo_sayUsed_34 hl rfl (nI_1 _) (by decide) rfl (fun ls hl => ?_)
          refine lv_goto hx hb dc_Mo_sayUsed_37 rfl ?_
          have hP : va_P D kc_l [mo_c o mth mty x0 mat mfr mto mgd mrd x1 x2 x3 mhf mhp mcl mck mba mct x4 x5 x6 x7 x8 mst x9 x10 x11 x12 mtr mrs x13 x14 x15 x16 mwr x17 mfo, ar_n cI x13 8 rs, ar_b cZ x15 8 us, ar_n cI x11 33 (va_up hc j (hc j + (pt_exs rs u a (i + 1 - a)).length)), ar_i cI x12 6400 (pt_put hh (400 * (j - mba - 1) + hc j) (pt_exs rs u a (i + 1 - a)))] H := by rw [ex_st h2.1, if_pos hub, ← cnt_s, ← put_s]; exact hP
          have hD : va_D A [mo_c o mth mty x0 mat mfr mto mgd mrd x1 x2 x3 mhf mhp mcl mck mba mct x4 x5 x6 x7 x8 mst x9 x10 x11 x12 mtr mrs x13 x14 x15 x16 mwr x17 mfo, ar_n cI x13 8 rs, ar_b cZ x15 8 us, ar_n cI x11 33 (va_up hc j (hc j + (pt_exs rs u a (i + 1 - a)).length)), ar_i cI x12 6400 (pt_put hh (400 * (j - mba - 1) + hc j) (pt_exs rs u a (i + 1 - a)))] := by rw [ex_st h2.1, if_pos hub, ← cnt_s, ← put_s]; exact hD
          exact ih_3 _ _ _ _ (by omega) hP hD hS hl (by omega)
  exact lp_3 _ a _ _ _ (Nat.lt_succ_self _) hP hD hS hl (⟨by omega, by omega⟩)

set_option maxHeartbeats 4000000 in
set_option maxRecDepth 100000 in
theorem ct_Mo_markAll (l : Launch) (D : va_G) (cI cZ : ClassId) (sz : Nat) (o : Nat) (mth : Nat) (mty : Nat) (x0 : Nat) (mat : Nat) (mfr : Nat) (mto : Nat) (mgd : Bool) (mrd : Nat) (x1 : Nat) (x2 : Nat) (x3 : Nat) (mhf : Bool) (mhp : Bool) (mcl : Bool) (mck : Bool) (mba : Nat) (mct : Nat) (x4 : Nat) (x5 : Nat) (x6 : Nat) (x7 : Nat) (x8 : Nat) (mst : Nat) (x9 : Nat) (x10 : Nat) (x11 : Nat) (x12 : Nat) (mtr : Nat) (mrs : Nat) (x13 : Nat) (x14 : Nat) (x15 : Nat) (x16 : Nat) (mwr : Nat) (x17 : Nat) (mfo : Nat) (kb : Nat → Bool) (lt : Nat → Bool) (hct : mct ≤ 32) : Met l yn_Mo_markAll (Cond.code yn_Mo_markAll bc_Mo_markAll 2 none :: kx_all) ({ frames := 0, cells := 0, slots := 0, locals := 0 } : Room) (kp [.ref o] D cI cZ [mo_c o mth mty x0 mat mfr mto mgd mrd x1 x2 x3 mhf mhp mcl mck mba mct x4 x5 x6 x7 x8 mst x9 x10 x11 x12 mtr mrs x13 x14 x15 x16 mwr x17 mfo, ar_b cZ x8 33 kb, ar_b cZ x16 33 lt] sz) (kw_q none D kc_l [mo_c o mth mty x0 mat mfr mto mgd mrd x1 x2 x3 mhf mhp mcl mck mba mct x4 x5 x6 x7 x8 mst x9 x10 x11 x12 mtr mrs x13 x14 x15 x16 mwr x17 mfo, ar_b cZ x8 33 (pt_mka kb lt (mct + 1)), ar_b cZ x16 33 lt] (va_A [mo_c o mth mty x0 mat mfr mto mgd mrd x1 x2 x3 mhf mhp mcl mck mba mct x4 x5 x6 x7 x8 mst x9 x10 x11 x12 mtr mrs x13 x14 x15 x16 mwr x17 mfo, ar_b cZ x8 33 kb, ar_b cZ x16 33 lt] sz)) 0 0 (va_A [mo_c o mth mty x0 mat mfr mto mgd mrd x1 x2 x3 mhf mhp mcl mck mba mct x4 x5 x6 x7 x8 mst x9 x10 x11 x12 mtr mrs x13 x14 x15 x16 mwr x17 mfo, ar_b cZ x8 33 kb, ar_b cZ x16 33 lt] sz) := by
  refine kx_metW (by decide) (Nat.le_of_ble_eq_true rfl) ?_
  intro p e s m below meth c ls A hx hb hr hml hts hown hlocks hin hA hP hK hD hN hl hS
  have hown : s.vm.findClass rn_Mo = some m.cls := hown
  have hl : lv_has ls 2 [(0, .ref o)] := hl
  refine lv_iconst (v := nI 1) hx hb dc_Mo_markAll_0 (by decide +kernel) ?_
  refine lv_istore_n (lv' := [(1, .int (nI 1)), (0, .ref o)]) hx hb dc_Mo_markAll_1 rfl hl (by decide) rfl (fun ls hl => ?_)
  have hP : va_P D kc_l [mo_c o mth mty x0 mat mfr mto mgd mrd x1 x2 x3 mhf mhp mcl mck mba mct x4 x5 x6 x7 x8 mst x9 x10 x11 x12 mtr mrs x13 x14 x15 x16 mwr x17 mfo, ar_b cZ x8 33 (pt_mka kb lt 1), ar_b cZ x16 33 lt] s.heap := by rw [mka_1]; exact hP
  have hD : va_D A [mo_c o mth mty x0 mat mfr mto mgd mrd x1 x2 x3 mhf mhp mcl mck mba mct x4 x5 x6 x7 x8 mst x9 x10 x11 x12 mtr mrs x13 x14 x15 x16 mwr x17 mfo, ar_b cZ x8 33 (pt_mka kb lt 1), ar_b cZ x16 33 lt] := by rw [mka_1]; exact hD
  have lp_2 : ∀ (K : Nat) (i : Nat) (H : Heap) (locs : List Loc) (ls : Array Slot), mct + 1 - i < K → va_P D kc_l [mo_c o mth mty x0 mat mfr mto mgd mrd x1 x2 x3 mhf mhp mcl mck mba mct x4 x5 x6 x7 x8 mst x9 x10 x11 x12 mtr mrs x13 x14 x15 x16 mwr x17 mfo, ar_b cZ x8 33 (pt_mka kb lt i), ar_b cZ x16 33 lt] H → va_D A [mo_c o mth mty x0 mat mfr mto mgd mrd x1 x2 x3 mhf mhp mcl mck mba mct x4 x5 x6 x7 x8 mst x9 x10 x11 x12 mtr mrs x13 x14 x15 x16 mwr x17 mfo, ar_b cZ x8 33 (pt_mka kb lt i), ar_b cZ x16 33 lt] → va_S A s.heap H locs → lv_has ls 2 [(1, .int (nI i)), (0, .ref o)] → (1 ≤ i ∧ i ≤ mct + 1) → W p l e ({ frames := 0, cells := 0, slots := 0, locals := 0 } : Room) s m ([.ref o] : List Value).toArray below meth c H locs 0 0 (MQ below (kw_q none D kc_l [mo_c o mth mty x0 mat mfr mto mgd mrd x1 x2 x3 mhf mhp mcl mck mba mct x4 x5 x6 x7 x8 mst x9 x10 x11 x12 mtr mrs x13 x14 x15 x16 mwr x17 mfo, ar_b cZ x8 33 (pt_mka kb lt (mct + 1)), ar_b cZ x16 33 lt] A) ([.ref o] : List Value).toArray s 0 0 A) (F0 m 2 ls []) := by
    intro K
    induction K with
    | zero =>
      intro i H locs ls hk
      exact absurd hk (Nat.not_lt_zero _)
    | succ K ih_2 =>
      intro i H locs ls hk hP hD hS hl h2
      refine lv_iload_n hx hb dc_Mo_markAll_2 rfl (lv_at hl 0 rfl) ?_
      refine lv_aload_n hx hb dc_Mo_markAll_3 rfl (lv_at hl 1 rfl) ?_
      refine va_get (ci := 10) (v := .int (nI mct)) (C := rn_Mo) (T := fd_Mo) (N := 36) hx hb hts in_Mo hown hK hP 0 rfl rfl 16 (by decide) (hts _ wd_762) (fun _ h9 => h9) rfl dc_Mo_markAll_4 ?_
      refine kn_icmp_gt hx hb (by omega) (by omega) dc_Mo_markAll_7 rfl (fun hc7 => ?_) (fun hc7 => ?_)
      · exact kw_vret hx hb hr hlocks hP hD hS dc_Mo_markAll_45 (by rw [show i = mct + 1 by omega])
      · refine lv_aload_n hx hb dc_Mo_markAll_10 rfl (lv_at hl 1 rfl) ?_
        refine va_get (ci := 10) (v := .ref x8) (C := rn_Mo) (T := fd_Mo) (N := 36) hx hb hts in_Mo hown hK hP 0 rfl rfl 21 (by decide) (hts _ wd_767) (fun _ h9 => h9) rfl dc_Mo_markAll_11 ?_
        refine lv_iload_n hx hb dc_Mo_markAll_14 rfl (lv_at hl 0 rfl) ?_
        refine lv_aload_n hx hb dc_Mo_markAll_15 rfl (lv_at hl 1 rfl) ?_
        refine va_get (ci := 10) (v := .ref x8) (C := rn_Mo) (T := fd_Mo) (N := 36) hx hb hts in_Mo hown hK hP 0 rfl rfl 21 (by decide) (hts _ wd_767) (fun _ h9 => h9) rfl dc_Mo_markAll_16 ?_
        refine lv_iload_n hx hb dc_Mo_markAll_19 rfl (lv_at hl 0 rfl) ?_
        refine ka_bald (t := pt_mka kb lt i) hx hb hK hP 1 1 rfl rfl (j := i) (by omega) (by omega) dc_Mo_markAll_20 ?_
        refine kb_if_ne hx hb dc_Mo_markAll_21 rfl (fun hc21 => ?_) (fun hc21 => ?_)
        · have hbb : true = (kb i || lt i) := by rw [mka_at] at hc21; rw [hc21]; rfl
          refine lv_iconst (v := nI 1) hx hb dc_Mo_markAll_33 (by decide +kernel) ?_
          refine lv_goto hx hb dc_Mo_markAll_34 rfl ?_
          refine kn_top (y := kb_i true) (by decide +kernel) ?_
          refine ka_bast (t := pt_mka kb lt i) hx hb hK hP hD hS 1 1 rfl rfl (j := i) (by omega) (by omega) dc_Mo_markAll_38 (ws' := [mo_c o mth mty x0 mat mfr mto mgd mrd x1 x2 x3 mhf mhp mcl mck mba mct x4 x5 x6 x7 x8 mst x9 x10 x11 x12 mtr mrs x13 x14 x15 x16 mwr x17 mfo, ar_b cZ x8 33 (va_up (pt_mka kb lt i) i true), ar_b cZ x16 33 lt]) rfl (fun H locs hP hD hS => ?_)
          refine lv_iinc (k := 0) (v := nI (i + 1)) (lv' := [(1, .int (nI (i + 1))), (0, .ref o)]) hx hb dc_Mo_markAll_39 hl rfl (nI_1 _) (by decide) rfl (fun ls hl => ?_)
          refine lv_goto hx hb dc_Mo_markAll_42 rfl ?_
          have hP : va_P D kc_l [mo_c o mth mty x0 mat mfr mto mgd mrd x1 x2 x3 mhf mhp mcl mck mba mct x4 x5 x6 x7 x8 mst x9 x10 x11 x12 mtr mrs x13 x14 x15 x16 mwr x17 mfo, ar_b cZ x8 33 (pt_mka kb lt (i + 1)), ar_b cZ x16 33 lt] H := by rw [← mka_s (by omega) hbb]; exact hP
          have hD : va_D A [mo_c o mth mty x0 mat mfr mto mgd mrd x1 x2 x3 mhf mhp mcl mck mba mct x4 x5 x6 x7 x8 mst x9 x10 x11 x12 mtr mrs x13 x14 x15 x16 mwr x17 mfo, ar_b cZ x8 33 (pt_mka kb lt (i + 1)), ar_b cZ x16 33 lt] := by rw [← mka_s (by omega) hbb]; exact hD
          exact ih_2 _ _ _ _ (by omega) hP hD hS hl (⟨by omega, by omega⟩)
        · refine lv_aload_n hx hb dc_Mo_markAll_24 rfl (lv_at hl 1 rfl) ?_
          refine va_get (ci := 10) (v := .ref x16) (C := rn_Mo) (T := fd_Mo) (N := 36) hx hb hts in_Mo hown hK hP 0 rfl rfl 32 (by decide) (hts _ wd_778) (fun _ h9 => h9) rfl dc_Mo_markAll_25 ?_
          refine lv_iload_n hx hb dc_Mo_markAll_28 rfl (lv_at hl 0 rfl) ?_
          refine ka_bald (t := lt) hx hb hK hP 2 1 rfl rfl (j := i) (by omega) (by omega) dc_Mo_markAll_29 ?_
          refine kb_if_eq hx hb dc_Mo_markAll_30 rfl (fun hc30 => ?_) (fun hc30 => ?_)
          · have hbb : false = (kb i || lt i) := by rw [mka_at] at hc21; rw [hc21, hc30]; rfl
            refine lv_iconst (v := nI 0) hx hb dc_Mo_markAll_37 (by decide +kernel) ?_
            refine kn_top (y := kb_i false) (by decide +kernel) ?_
            refine ka_bast (t := pt_mka kb lt i) hx hb hK hP hD hS 1 1 rfl rfl (j := i) (by omega) (by omega) dc_Mo_markAll_38 (ws' := [mo_c o mth mty x0 mat mfr mto mgd mrd x1 x2 x3 mhf mhp mcl mck mba mct x4 x5 x6 x7 x8 mst x9 x10 x11 x12 mtr mrs x13 x14 x15 x16 mwr x17 mfo, ar_b cZ x8 33 (va_up (pt_mka kb lt i) i false), ar_b cZ x16 33 lt]) rfl (fun H locs hP hD hS => ?_)
            refine lv_iinc (k := 0) (v := nI (i + 1)) (lv' := [(1, .int (nI (i + 1))), (0, .ref o)]) hx hb dc_Mo_markAll_39 hl rfl (nI_1 _) (by decide) rfl (fun ls hl => ?_)
            refine lv_goto hx hb dc_Mo_markAll_42 rfl ?_
            have hP : va_P D kc_l [mo_c o mth mty x0 mat mfr mto mgd mrd x1 x2 x3 mhf mhp mcl mck mba mct x4 x5 x6 x7 x8 mst x9 x10 x11 x12 mtr mrs x13 x14 x15 x16 mwr x17 mfo, ar_b cZ x8 33 (pt_mka kb lt (i + 1)), ar_b cZ x16 33 lt] H := by rw [← mka_s (by omega) hbb]; exact hP
            have hD : va_D A [mo_c o mth mty x0 mat mfr mto mgd mrd x1 x2 x3 mhf mhp mcl mck mba mct x4 x5 x6 x7 x8 mst x9 x10 x11 x12 mtr mrs x13 x14 x15 x16 mwr x17 mfo, ar_b cZ x8 33 (pt_mka kb lt (i + 1)), ar_b cZ x16 33 lt] := by rw [← mka_s (by omega) hbb]; exact hD
            exact ih_2 _ _ _ _ (by omega) hP hD hS hl (⟨by omega, by omega⟩)
          · have hbb : true = (kb i || lt i) := by rw [hc30, Bool.or_true]
            refine lv_iconst (v := nI 1) hx hb dc_Mo_markAll_33 (by decide +kernel) ?_
            refine lv_goto hx hb dc_Mo_markAll_34 rfl ?_
            refine kn_top (y := kb_i true) (by decide +kernel) ?_
            refine ka_bast (t := pt_mka kb lt i) hx hb hK hP hD hS 1 1 rfl rfl (j := i) (by omega) (by omega) dc_Mo_markAll_38 (ws' := [mo_c o mth mty x0 mat mfr mto mgd mrd x1 x2 x3 mhf mhp mcl mck mba mct x4 x5 x6 x7 x8 mst x9 x10 x11 x12 mtr mrs x13 x14 x15 x16 mwr x17 mfo, ar_b cZ x8 33 (va_up (pt_mka kb lt i) i true), ar_b cZ x16 33 lt]) rfl (fun H locs hP hD hS => ?_)
            refine lv_iinc (k := 0) (v := nI (i + 1)) (lv' := [(1, .int (nI (i + 1))), (0, .ref o)]) hx hb dc_Mo_markAll_39 hl rfl (nI_1 _) (by decide) rfl (fun ls hl => ?_)
            refine lv_goto hx hb dc_Mo_markAll_42 rfl ?_
            have hP : va_P D kc_l [mo_c o mth mty x0 mat mfr mto mgd mrd x1 x2 x3 mhf mhp mcl mck mba mct x4 x5 x6 x7 x8 mst x9 x10 x11 x12 mtr mrs x13 x14 x15 x16 mwr x17 mfo, ar_b cZ x8 33 (pt_mka kb lt (i + 1)), ar_b cZ x16 33 lt] H := by rw [← mka_s (by omega) hbb]; exact hP
            have hD : va_D A [mo_c o mth mty x0 mat mfr mto mgd mrd x1 x2 x3 mhf mhp mcl mck mba mct x4 x5 x6 x7 x8 mst x9 x10 x11 x12 mtr mrs x13 x14 x15 x16 mwr x17 mfo, ar_b cZ x8 33 (pt_mka kb lt (i + 1)), ar_b cZ x16 33 lt] := by rw [← mka_s (by omega) hbb]; exact hD
            exact ih_2 _ _ _ _ (by omega) hP hD hS hl (⟨by omega, by omega⟩)
  exact lp_2 _ 1 _ _ _ (Nat.lt_succ_self _) hP hD hS hl (⟨by omega, by omega⟩)

set_option maxHeartbeats 4000000 in
set_option maxRecDepth 100000 in
theorem ct_Mo_first (l : Launch) (D : va_G) (cI cZ : ClassId) (sz : Nat) (o : Nat) (mth : Nat) (mty : Nat) (x0 : Nat) (mat : Nat) (mfr : Nat) (mto : Nat) (mgd : Bool) (mrd : Nat) (x1 : Nat) (x2 : Nat) (x3 : Nat) (mhf : Bool) (mhp : Bool) (mcl : Bool) (mck : Bool) (mba : Nat) (mct : Nat) (x4 : Nat) (x5 : Nat) (x6 : Nat) (x7 : Nat) (x8 : Nat) (mst : Nat) (x9 : Nat) (x10 : Nat) (x11 : Nat) (x12 : Nat) (mtr : Nat) (mrs : Nat) (x13 : Nat) (x14 : Nat) (x15 : Nat) (x16 : Nat) (mwr : Nat) (x17 : Nat) (mfo : Nat) (lb : Nat → Bool) (hba : mba ≤ 32) : Met l yn_Mo_first (Cond.code yn_Mo_first bc_Mo_first 2 none :: kx_all) ({ frames := 0, cells := 0, slots := 0, locals := 0 } : Room) (kp [.ref o] D cI cZ [mo_c o mth mty x0 mat mfr mto mgd mrd x1 x2 x3 mhf mhp mcl mck mba mct x4 x5 x6 x7 x8 mst x9 x10 x11 x12 mtr mrs x13 x14 x15 x16 mwr x17 mfo, ar_b cZ x7 33 lb] sz) (kw_q none D kc_l [mo_c o mth mty x0 mat mfr mto mgd mrd x1 x2 x3 mhf mhp mcl mck mba mct x4 x5 x6 x7 x8 mst x9 x10 x11 x12 mtr mrs x13 x14 x15 x16 mwr x17 mfo, ar_b cZ x7 33 (pt_fst lb mba 33)] (va_A [mo_c o mth mty x0 mat mfr mto mgd mrd x1 x2 x3 mhf mhp mcl mck mba mct x4 x5 x6 x7 x8 mst x9 x10 x11 x12 mtr mrs x13 x14 x15 x16 mwr x17 mfo, ar_b cZ x7 33 lb] sz)) 0 0 (va_A [mo_c o mth mty x0 mat mfr mto mgd mrd x1 x2 x3 mhf mhp mcl mck mba mct x4 x5 x6 x7 x8 mst x9 x10 x11 x12 mtr mrs x13 x14 x15 x16 mwr x17 mfo, ar_b cZ x7 33 lb] sz) := by
  refine kx_metW (by decide) (Nat.le_of_ble_eq_true rfl) ?_
  intro p e s m below meth c ls A hx hb hr hml hts hown hlocks hin hA hP hK hD hN hl hS
  have hown : s.vm.findClass rn_Mo = some m.cls := hown
  have hl : lv_has ls 2 [(0, .ref o)] := hl
  refine lv_iconst (v := nI 1) hx hb dc_Mo_first_0 (by decide +kernel) ?_
  refine lv_istore_n (lv' := [(1, .int (nI 1)), (0, .ref o)]) hx hb dc_Mo_first_1 rfl hl (by decide) rfl (fun ls hl => ?_)
  have hP : va_P D kc_l [mo_c o mth mty x0 mat mfr mto mgd mrd x1 x2 x3 mhf mhp mcl mck mba mct x4 x5 x6 x7 x8 mst x9 x10 x11 x12 mtr mrs x13 x14 x15 x16 mwr x17 mfo, ar_b cZ x7 33 (pt_fst lb mba 1)] s.heap := by rw [fst_1]; exact hP
  have hD : va_D A [mo_c o mth mty x0 mat mfr mto mgd mrd x1 x2 x3 mhf mhp mcl mck mba mct x4 x5 x6 x7 x8 mst x9 x10 x11 x12 mtr mrs x13 x14 x15 x16 mwr x17 mfo, ar_b cZ x7 33 (pt_fst lb mba 1)] := by rw [fst_1]; exact hD
  have lp_2 : ∀ (K : Nat) (i : Nat) (H : Heap) (locs : List Loc) (ls : Array Slot), 33 - i < K → va_P D kc_l [mo_c o mth mty x0 mat mfr mto mgd mrd x1 x2 x3 mhf mhp mcl mck mba mct x4 x5 x6 x7 x8 mst x9 x10 x11 x12 mtr mrs x13 x14 x15 x16 mwr x17 mfo, ar_b cZ x7 33 (pt_fst lb mba i)] H → va_D A [mo_c o mth mty x0 mat mfr mto mgd mrd x1 x2 x3 mhf mhp mcl mck mba mct x4 x5 x6 x7 x8 mst x9 x10 x11 x12 mtr mrs x13 x14 x15 x16 mwr x17 mfo, ar_b cZ x7 33 (pt_fst lb mba i)] → va_S A s.heap H locs → lv_has ls 2 [(1, .int (nI i)), (0, .ref o)] → (1 ≤ i ∧ i ≤ 33) → W p l e ({ frames := 0, cells := 0, slots := 0, locals := 0 } : Room) s m ([.ref o] : List Value).toArray below meth c H locs 0 0 (MQ below (kw_q none D kc_l [mo_c o mth mty x0 mat mfr mto mgd mrd x1 x2 x3 mhf mhp mcl mck mba mct x4 x5 x6 x7 x8 mst x9 x10 x11 x12 mtr mrs x13 x14 x15 x16 mwr x17 mfo, ar_b cZ x7 33 (pt_fst lb mba 33)] A) ([.ref o] : List Value).toArray s 0 0 A) (F0 m 2 ls []) := by
    intro K
    induction K with
    | zero =>
      intro i H locs ls hk
      exact absurd hk (Nat.not_lt_zero _)
    | succ K ih_2 =>
      intro i H locs ls hk hP hD hS hl h2
      refine lv_iload_n hx hb dc_Mo_first_2 rfl (lv_at hl 0 rfl) ?_
      refine lv_bipush (v := nI 33) hx hb dc_Mo_first_3 (by decide +kernel) ?_
      refine kn_icmp_ge hx hb (by omega) (by omega) dc_Mo_first_5 rfl (fun hc5 => ?_) (fun hc5 => ?_)
      · exact kw_vret hx hb hr hlocks hP hD hS dc_Mo_first_33 (by rw [show i = 33 by omega])
      · refine lv_aload_n hx hb dc_Mo_first_8 rfl (lv_at hl 1 rfl) ?_
        refine va_get (ci := 10) (v := .ref x7) (C := rn_Mo) (T := fd_Mo) (N := 36) hx hb hts in_Mo hown hK hP 0 rfl rfl 20 (by decide) (hts _ wd_766) (fun _ h9 => h9) rfl dc_Mo_first_9 ?_
        refine lv_iload_n hx hb dc_Mo_first_12 rfl (lv_at hl 0 rfl) ?_
        refine lv_iload_n hx hb dc_Mo_first_13 rfl (lv_at hl 0 rfl) ?_
        refine lv_aload_n hx hb dc_Mo_first_14 rfl (lv_at hl 1 rfl) ?_
        refine va_get (ci := 10) (v := .int (nI mba)) (C := rn_Mo) (T := fd_Mo) (N := 36) hx hb hts in_Mo hown hK hP 0 rfl rfl 15 (by decide) (hts _ wd_761) (fun _ h9 => h9) rfl dc_Mo_first_15 ?_
        refine kn_icmp_gt hx hb (by omega) (by omega) dc_Mo_first_18 rfl (fun hc18 => ?_) (fun hc18 => ?_)
        · have hbb : false = decide (i ≤ mba) := (decide_eq_false (by omega)).symm
          refine lv_iconst (v := nI 0) hx hb dc_Mo_first_25 (by decide +kernel) ?_
          refine kn_top (y := kb_i false) (by decide +kernel) ?_
          refine ka_bast (t := pt_fst lb mba i) hx hb hK hP hD hS 1 1 rfl rfl (j := i) (by omega) (by omega) dc_Mo_first_26 (ws' := [mo_c o mth mty x0 mat mfr mto mgd mrd x1 x2 x3 mhf mhp mcl mck mba mct x4 x5 x6 x7 x8 mst x9 x10 x11 x12 mtr mrs x13 x14 x15 x16 mwr x17 mfo, ar_b cZ x7 33 (va_up (pt_fst lb mba i) i false)]) rfl (fun H locs hP hD hS => ?_)
          refine lv_iinc (k := 0) (v := nI (i + 1)) (lv' := [(1, .int (nI (i + 1))), (0, .ref o)]) hx hb dc_Mo_first_27 hl rfl (nI_1 _) (by decide) rfl (fun ls hl => ?_)
          refine lv_goto hx hb dc_Mo_first_30 rfl ?_
          have hP : va_P D kc_l [mo_c o mth mty x0 mat mfr mto mgd mrd x1 x2 x3 mhf mhp mcl mck mba mct x4 x5 x6 x7 x8 mst x9 x10 x11 x12 mtr mrs x13 x14 x15 x16 mwr x17 mfo, ar_b cZ x7 33 (pt_fst lb mba (i + 1))] H := by rw [← fst_s (by omega) hbb]; exact hP
          have hD : va_D A [mo_c o mth mty x0 mat mfr mto mgd mrd x1 x2 x3 mhf mhp mcl mck mba mct x4 x5 x6 x7 x8 mst x9 x10 x11 x12 mtr mrs x13 x14 x15 x16 mwr x17 mfo, ar_b cZ x7 33 (pt_fst lb mba (i + 1))] := by rw [← fst_s (by omega) hbb]; exact hD
          exact ih_2 _ _ _ _ (by omega) hP hD hS hl (⟨by omega, by omega⟩)
        · have hbb : true = decide (i ≤ mba) := (decide_eq_true (by omega)).symm
          refine lv_iconst (v := nI 1) hx hb dc_Mo_first_21 (by decide +kernel) ?_
          refine lv_goto hx hb dc_Mo_first_22 rfl ?_
          refine kn_top (y := kb_i true) (by decide +kernel) ?_
          refine ka_bast (t := pt_fst lb mba i) hx hb hK hP hD hS 1 1 rfl rfl (j := i) (by omega) (by omega) dc_Mo_first_26 (ws' := [mo_c o mth mty x0 mat mfr mto mgd mrd x1 x2 x3 mhf mhp mcl mck mba mct x4 x5 x6 x7 x8 mst x9 x10 x11 x12 mtr mrs x13 x14 x15 x16 mwr x17 mfo, ar_b cZ x7 33 (va_up (pt_fst lb mba i) i true)]) rfl (fun H locs hP hD hS => ?_)
          refine lv_iinc (k := 0) (v := nI (i + 1)) (lv' := [(1, .int (nI (i + 1))), (0, .ref o)]) hx hb dc_Mo_first_27 hl rfl (nI_1 _) (by decide) rfl (fun ls hl => ?_)
          refine lv_goto hx hb dc_Mo_first_30 rfl ?_
          have hP : va_P D kc_l [mo_c o mth mty x0 mat mfr mto mgd mrd x1 x2 x3 mhf mhp mcl mck mba mct x4 x5 x6 x7 x8 mst x9 x10 x11 x12 mtr mrs x13 x14 x15 x16 mwr x17 mfo, ar_b cZ x7 33 (pt_fst lb mba (i + 1))] H := by rw [← fst_s (by omega) hbb]; exact hP
          have hD : va_D A [mo_c o mth mty x0 mat mfr mto mgd mrd x1 x2 x3 mhf mhp mcl mck mba mct x4 x5 x6 x7 x8 mst x9 x10 x11 x12 mtr mrs x13 x14 x15 x16 mwr x17 mfo, ar_b cZ x7 33 (pt_fst lb mba (i + 1))] := by rw [← fst_s (by omega) hbb]; exact hD
          exact ih_2 _ _ _ _ (by omega) hP hD hS hl (⟨by omega, by omega⟩)
  exact lp_2 _ 1 _ _ _ (Nat.lt_succ_self _) hP hD hS hl (⟨by omega, by omega⟩)

set_option maxHeartbeats 4000000 in
set_option maxRecDepth 100000 in
theorem ct_Mo_alike (l : Launch) (D : va_G) (cI cZ : ClassId) (sz : Nat) (o : Nat) (mth : Nat) (mty : Nat) (x0 : Nat) (mat : Nat) (mfr : Nat) (mto : Nat) (mgd : Bool) (mrd : Nat) (x1 : Nat) (x2 : Nat) (x3 : Nat) (mhf : Bool) (mhp : Bool) (mcl : Bool) (mck : Bool) (mba : Nat) (mct : Nat) (x4 : Nat) (x5 : Nat) (x6 : Nat) (x7 : Nat) (x8 : Nat) (mst : Nat) (x9 : Nat) (x10 : Nat) (x11 : Nat) (x12 : Nat) (mtr : Nat) (mrs : Nat) (x13 : Nat) (x14 : Nat) (x15 : Nat) (x16 : Nat) (mwr : Nat) (x17 : Nat) (mfo : Nat) (lb : Nat → Bool) (fs : Nat → Nat) (x : Nat) (lv : Nat) (hct : mct ≤ 32) (h16 : ∀ j, fs j < 65536) (hx : x < 65536) (hlb : ∀ j, 1 ≤ j → j ≤ mct → lb j = lv.testBit j) : Met l yn_Mo_alike (Cond.code yn_Mo_alike bc_Mo_alike 3 (some .int) :: kx_all) ({ frames := 0, cells := 0, slots := 0, locals := 0 } : Room) (kp [.ref o, .int (nI x)] D cI cZ [mo_c o mth mty x0 mat mfr mto mgd mrd x1 x2 x3 mhf mhp mcl mck mba mct x4 x5 x6 x7 x8 mst x9 x10 x11 x12 mtr mrs x13 x14 x15 x16 mwr x17 mfo, ar_b cZ x7 33 lb, ar_n cI x4 33 fs] sz) (kr_q (some (.int (nI (pt_last (fun j => lv.testBit j && decide (fs j = x)) mct))))) 0 0 (fun _ => False) := by
  refine kx_met (by decide) (Nat.le_of_ble_eq_true rfl) ?_
  intro p e s m below meth c ls hx hb hr hml hts hown hlocks hin hsz hP hK hD hN hl
  have hown : s.vm.findClass rn_Mo = some m.cls := hown
  have hl : lv_has ls 3 [(0, .ref o), (1, .int (nI x))] := hl
  refine lv_aload_n hx hb dc_Mo_alike_0 rfl (lv_at hl 0 rfl) ?_
  refine va_get (ci := 10) (v := .int (nI mct)) (C := rn_Mo) (T := fd_Mo) (N := 36) hx hb hts in_Mo hown hK hP 0 rfl rfl 16 (by decide) (hts _ wd_762) (fun _ h9 => h9) rfl dc_Mo_alike_1 ?_
  refine lv_istore_n (lv' := [(2, .int (nI mct)), (0, .ref o), (1, .int (nI x))]) hx hb dc_Mo_alike_4 rfl hl (by decide) rfl (fun ls hl => ?_)
  have lp_5 : ∀ (K : Nat) (k : Nat) (ls : Array Slot), k < K → lv_has ls 3 [(2, .int (nI k)), (0, .ref o), (1, .int (nI x))] → (pt_last (fun j => lv.testBit j && decide (fs j = x)) k = pt_last (fun j => lv.testBit j && decide (fs j = x)) mct) → (k ≤ mct) → W p l e ({ frames := 0, cells := 0, slots := 0, locals := 0 } : Room) s m ([.ref o, .int (nI x)] : List Value).toArray below meth c s.heap [] 0 0 (MQ below (kr_q (some (.int (nI (pt_last (fun j => lv.testBit j && decide (fs j = x)) mct))))) ([.ref o, .int (nI x)] : List Value).toArray s 0 0 (fun _ => False)) (F0 m 5 ls []) := by
    intro K
    induction K with
    | zero =>
      intro k ls hk
      exact absurd hk (Nat.not_lt_zero _)
    | succ K ih_5 =>
      intro k ls hk hl h1 h2
      refine lv_iload_n hx hb dc_Mo_alike_5 rfl (lv_at hl 0 rfl) ?_
      refine lv_if_le hx hb dc_Mo_alike_6 rfl (fun hc6 => ?_) (fun hc6 => ?_)
      · refine lv_iload_n hx hb dc_Mo_alike_34 rfl (lv_at hl 0 rfl) ?_
        exact kr_iret hx hb hr hlocks dc_Mo_alike_35 (by rw [← h1, show k = 0 by exact (Nat.eq_zero_or_pos k).elim id (fun q => absurd hc6 (nI_nle q (by omega)))]; rfl)
      · have hk1 : 1 ≤ k := by
          rcases Nat.eq_zero_or_pos k with q | q
          · exact absurd (by rw [q]; decide +kernel) hc6
          · exact q
        refine lv_aload_n hx hb dc_Mo_alike_9 rfl (lv_at hl 1 rfl) ?_
        refine va_get (ci := 10) (v := .ref x7) (C := rn_Mo) (T := fd_Mo) (N := 36) hx hb hts in_Mo hown hK hP 0 rfl rfl 20 (by decide) (hts _ wd_766) (fun _ h9 => h9) rfl dc_Mo_alike_10 ?_
        refine lv_iload_n hx hb dc_Mo_alike_13 rfl (lv_at hl 0 rfl) ?_
        refine ka_bald (t := lb) hx hb hK hP 1 1 rfl rfl (j := k) (by omega) (by omega) dc_Mo_alike_14 ?_
        refine kb_if_eq hx hb dc_Mo_alike_15 rfl (fun hc15 => ?_) (fun hc15 => ?_)
        · refine lv_iinc (k := 0) (v := nI (k - 1)) (lv' := [(2, .int (nI (k - 1))), (0, .ref o), (1, .int (nI x))]) hx hb dc_Mo_alike_28 hl rfl (kn_dec (by omega)) (by decide) rfl (fun ls hl => ?_)
          refine lv_goto hx hb dc_Mo_alike_31 rfl ?_
          exact ih_5 _ _ (by omega) hl (by rw [← h1]; exact (pt_last_no (by omega) (by rw [← hlb k (by omega) (by omega), hc15]; rfl)).symm) (by omega)
        · refine lv_aload_n hx hb dc_Mo_alike_18 rfl (lv_at hl 1 rfl) ?_
          refine va_get (ci := 10) (v := .ref x4) (C := rn_Mo) (T := fd_Mo) (N := 36) hx hb hts in_Mo hown hK hP 0 rfl rfl 17 (by decide) (hts _ wd_763) (fun _ h9 => h9) rfl dc_Mo_alike_19 ?_
          refine lv_iload_n hx hb dc_Mo_alike_22 rfl (lv_at hl 0 rfl) ?_
          refine ka_nald (t := fs) hx hb hK hP 2 0 rfl rfl (j := k) (by omega) (by omega) dc_Mo_alike_23 ?_
          refine lv_iload_n hx hb dc_Mo_alike_24 rfl (lv_at hl 2 rfl) ?_
          refine kn_icmp_eq hx hb (Nat.lt_of_lt_of_le (h16 k) (by decide)) (by omega) dc_Mo_alike_25 rfl (fun hc25 => ?_) (fun hc25 => ?_)
          · refine lv_iload_n hx hb dc_Mo_alike_34 rfl (lv_at hl 0 rfl) ?_
            exact kr_iret hx hb hr hlocks dc_Mo_alike_35 (by rw [← h1, pt_last_yes (by omega) (by rw [← hlb k (by omega) (by omega), hc15, decide_eq_true hc25]; rfl)])
          · refine lv_iinc (k := 0) (v := nI (k - 1)) (lv' := [(2, .int (nI (k - 1))), (0, .ref o), (1, .int (nI x))]) hx hb dc_Mo_alike_28 hl rfl (kn_dec (by omega)) (by decide) rfl (fun ls hl => ?_)
            refine lv_goto hx hb dc_Mo_alike_31 rfl ?_
            exact ih_5 _ _ (by omega) hl (by rw [← h1]; exact (pt_last_no (by omega) (by rw [decide_eq_false hc25, Bool.and_false])).symm) (by omega)
  exact lp_5 _ _ _ (Nat.lt_succ_self _) hl (rfl) (by omega)

set_option maxHeartbeats 4000000 in
set_option maxRecDepth 100000 in
theorem ct_Mo_make (l : Launch) (D : va_G) (cI cZ : ClassId) (sz : Nat) (o : Nat) (mth : Nat) (mty : Nat) (x0 : Nat) (mat : Nat) (mfr : Nat) (mto : Nat) (mgd : Bool) (mrd : Nat) (x1 : Nat) (x2 : Nat) (x3 : Nat) (mhf : Bool) (mhp : Bool) (mcl : Bool) (mck : Bool) (mba : Nat) (mct : Nat) (x4 : Nat) (x5 : Nat) (x6 : Nat) (x7 : Nat) (x8 : Nat) (mst : Nat) (x9 : Nat) (x10 : Nat) (x11 : Nat) (x12 : Nat) (mtr : Nat) (mrs : Nat) (x13 : Nat) (x14 : Nat) (x15 : Nat) (x16 : Nat) (mwr : Nat) (x17 : Nat) (mfo : Nat) (rz : Nat → Nat) (rl : Nat → Int32) (fz : Nat → Nat) (fs : Nat → Nat) (fl : Nat → Int32) (j : Nat) (bb : Nat → Nat) (pm : Nat → Nat) (z : Nat) (hj : j < 16) (hct : mct < 32) (hrow : pt_row rl (8 * j) (rz j) bb pm z) : Met l yn_Mo_make (Cond.code yn_Mo_make bc_Mo_make 3 none :: kx_all) ({ frames := 2, cells := 0, slots := 0, locals := 43 } : Room) (kp [.ref o, .int (nI j)] D cI cZ [mo_c o mth mty x0 mat mfr mto mgd mrd x1 x2 x3 mhf mhp mcl mck mba mct x4 x5 x6 x7 x8 mst x9 x10 x11 x12 mtr mrs x13 x14 x15 x16 mwr x17 mfo, ar_n cI x1 16 rz, ar_i cI x2 128 rl, ar_n cI x5 33 fz, ar_n cI x4 33 fs, ar_i cI x6 264 fl] sz) (kw_q none D kc_l [mo_c o mth mty x0 mat mfr mto mgd mrd x1 x2 x3 mhf mhp mcl mck mba (mct + 1) x4 x5 x6 x7 x8 mst x9 x10 x11 x12 mtr mrs x13 x14 x15 x16 mwr x17 mfo, ar_n cI x1 16 rz, ar_i cI x2 128 rl, ar_n cI x5 33 (va_up fz (mct + 1) (rz j)), ar_n cI x4 33 (va_up fs (mct + 1) z), ar_i cI x6 264 (va_cpy rl fl (8 * j) (8 * (mct + 1)) (rz j))] (va_A [mo_c o mth mty x0 mat mfr mto mgd mrd x1 x2 x3 mhf mhp mcl mck mba mct x4 x5 x6 x7 x8 mst x9 x10 x11 x12 mtr mrs x13 x14 x15 x16 mwr x17 mfo, ar_n cI x1 16 rz, ar_i cI x2 128 rl, ar_n cI x5 33 fz, ar_n cI x4 33 fs, ar_i cI x6 264 fl] sz)) 0 0 (va_A [mo_c o mth mty x0 mat mfr mto mgd mrd x1 x2 x3 mhf mhp mcl mck mba mct x4 x5 x6 x7 x8 mst x9 x10 x11 x12 mtr mrs x13 x14 x15 x16 mwr x17 mfo, ar_n cI x1 16 rz, ar_i cI x2 128 rl, ar_n cI x5 33 fz, ar_n cI x4 33 fs, ar_i cI x6 264 fl] sz) := by
  refine kx_metW (by decide) (Nat.le_of_ble_eq_true rfl) ?_
  intro p e s m below meth c ls A hx hb hr hml hts hown hlocks hin hA hP hK hD hN hl hS
  have hown : s.vm.findClass rn_Mo = some m.cls := hown
  have hl : lv_has ls 3 [(0, .ref o), (1, .int (nI j))] := hl
  have hrow0 := hrow
  obtain ⟨h8, hpm0, hpe, hlit⟩ := hrow
  refine lv_aload_n hx hb dc_Mo_make_0 rfl (lv_at hl 0 rfl) ?_
  refine lv_dup hx hb dc_Mo_make_1 rfl ?_
  refine va_get (ci := 10) (v := .int (nI mct)) (C := rn_Mo) (T := fd_Mo) (N := 36) hx hb hts in_Mo hown hK hP 0 rfl rfl 16 (by decide) (hts _ wd_762) (fun _ h9 => h9) rfl dc_Mo_make_2 ?_
  refine lv_iconst (v := nI 1) hx hb dc_Mo_make_5 (by decide +kernel) ?_
  refine kn_iadd hx hb dc_Mo_make_6 ?_
  refine va_put (ci := 10) (v := .int (nI (mct + 1))) (ty := .int) (C := rn_Mo) (T := fd_Mo) (N := 36) hx hb hts in_Mo ty_Mo tk_Mo nm_Mo hown hK hP hD hS 0 rfl rfl 16 (by decide) (hts _ wd_762) (fun _ h9 => h9) rfl (by decide +kernel) rfl rfl (Nat.le_of_ble_eq_true rfl) dc_Mo_make_7 (fun H locs hP hD hS => ?_)
  have hP : va_P D kc_l [mo_c o mth mty x0 mat mfr mto mgd mrd x1 x2 x3 mhf mhp mcl mck mba (mct + 1) x4 x5 x6 x7 x8 mst x9 x10 x11 x12 mtr mrs x13 x14 x15 x16 mwr x17 mfo, ar_n cI x1 16 rz, ar_i cI x2 128 rl, ar_n cI x5 33 fz, ar_n cI x4 33 fs, ar_i cI x6 264 fl] H := hP
  have hD : va_D A [mo_c o mth mty x0 mat mfr mto mgd mrd x1 x2 x3 mhf mhp mcl mck mba (mct + 1) x4 x5 x6 x7 x8 mst x9 x10 x11 x12 mtr mrs x13 x14 x15 x16 mwr x17 mfo, ar_n cI x1 16 rz, ar_i cI x2 128 rl, ar_n cI x5 33 fz, ar_n cI x4 33 fs, ar_i cI x6 264 fl] := hD
  refine lv_aload_n hx hb dc_Mo_make_10 rfl (lv_at hl 0 rfl) ?_
  refine va_get (ci := 10) (v := .ref x5) (C := rn_Mo) (T := fd_Mo) (N := 36) hx hb hts in_Mo hown hK hP 0 rfl rfl 18 (by decide) (hts _ wd_764) (fun _ h9 => h9) rfl dc_Mo_make_11 ?_
  refine lv_aload_n hx hb dc_Mo_make_14 rfl (lv_at hl 0 rfl) ?_
  refine va_get (ci := 10) (v := .int (nI (mct + 1))) (C := rn_Mo) (T := fd_Mo) (N := 36) hx hb hts in_Mo hown hK hP 0 rfl rfl 16 (by decide) (hts _ wd_762) (fun _ h9 => h9) rfl dc_Mo_make_15 ?_
  refine lv_aload_n hx hb dc_Mo_make_18 rfl (lv_at hl 0 rfl) ?_
  refine va_get (ci := 10) (v := .ref x1) (C := rn_Mo) (T := fd_Mo) (N := 36) hx hb hts in_Mo hown hK hP 0 rfl rfl 8 (by decide) (hts _ wd_754) (fun _ h9 => h9) rfl dc_Mo_make_19 ?_
  refine lv_iload_n hx hb dc_Mo_make_22 rfl (lv_at hl 1 rfl) ?_
  refine ka_nald (t := rz) hx hb hK hP 1 0 rfl rfl (j := j) (by omega) (by omega) dc_Mo_make_23 ?_
  refine ka_nast (t := fz) hx hb hK hP hD hS 3 0 rfl rfl (j := mct + 1) (by omega) (by omega) dc_Mo_make_24 (ws' := [mo_c o mth mty x0 mat mfr mto mgd mrd x1 x2 x3 mhf mhp mcl mck mba (mct + 1) x4 x5 x6 x7 x8 mst x9 x10 x11 x12 mtr mrs x13 x14 x15 x16 mwr x17 mfo, ar_n cI x1 16 rz, ar_i cI x2 128 rl, ar_n cI x5 33 (va_up fz (mct + 1) (rz j)), ar_n cI x4 33 fs, ar_i cI x6 264 fl]) rfl (fun H locs hP hD hS => ?_)
  refine lv_aload_n hx hb dc_Mo_make_25 rfl (lv_at hl 0 rfl) ?_
  refine va_get (ci := 10) (v := .ref x4) (C := rn_Mo) (T := fd_Mo) (N := 36) hx hb hts in_Mo hown hK hP 0 rfl rfl 17 (by decide) (hts _ wd_763) (fun _ h9 => h9) rfl dc_Mo_make_26 ?_
  refine lv_aload_n hx hb dc_Mo_make_29 rfl (lv_at hl 0 rfl) ?_
  refine va_get (ci := 10) (v := .int (nI (mct + 1))) (C := rn_Mo) (T := fd_Mo) (N := 36) hx hb hts in_Mo hown hK hP 0 rfl rfl 16 (by decide) (hts _ wd_762) (fun _ h9 => h9) rfl dc_Mo_make_30 ?_
  refine lv_aload_n hx hb dc_Mo_make_33 rfl (lv_at hl 0 rfl) ?_
  refine lv_iload_n hx hb dc_Mo_make_34 rfl (lv_at hl 1 rfl) ?_
  refine kr_call1 (va_runV (As := [.int (nI j)]) (rest := [.int (nI (mct + 1)), .ref x4]) ⟨hx, hb, hml, hown, hts⟩ (ct_Mo_setAt l D cI cZ _ o mth mty x0 mat mfr mto mgd mrd x1 x2 x3 mhf mhp mcl mck mba (mct + 1) x4 x5 x6 x7 x8 mst x9 x10 x11 x12 mtr mrs x13 x14 x15 x16 mwr x17 mfo rz rl j bb pm z (by omega) (hrow0)) (cwV 1 hts (kx_gV wd_911 wd_913 (kx_sel (q := (yn_Mo_setAt, 36)) (List.mem_append_right _ (List.mem_append_left _ (List.mem_of_getElem? (i := 5) rfl)))) wd_9 wd_914) rfl rfl rfl ⟨rfl, yd_Mo_setAt⟩ ⟨Nat.le_of_ble_eq_true rfl, Nat.le_of_ble_eq_true rfl⟩) (kp_V (q0 := 0) (ci := 10) hP hD hK hN [0, 1, 2] rfl rfl rfl rfl rfl) rfl rfl hl.1 rfl (lv_room (Nat.le_of_ble_eq_true rfl)) dc_Mo_make_35 ⟨Nat.le_of_ble_eq_true rfl, Nat.le_of_ble_eq_true rfl⟩) ?_
  refine ka_nast (t := fs) hx hb hK hP hD hS 4 0 rfl rfl (j := mct + 1) (by omega) (by omega) dc_Mo_make_38 (ws' := [mo_c o mth mty x0 mat mfr mto mgd mrd x1 x2 x3 mhf mhp mcl mck mba (mct + 1) x4 x5 x6 x7 x8 mst x9 x10 x11 x12 mtr mrs x13 x14 x15 x16 mwr x17 mfo, ar_n cI x1 16 rz, ar_i cI x2 128 rl, ar_n cI x5 33 (va_up fz (mct + 1) (rz j)), ar_n cI x4 33 (va_up fs (mct + 1) z), ar_i cI x6 264 fl]) rfl (fun H locs hP hD hS => ?_)
  refine lv_iconst (v := nI 0) hx hb dc_Mo_make_39 (by decide +kernel) ?_
  refine lv_istore_n (lv' := [(2, .int (nI 0)), (0, .ref o), (1, .int (nI j))]) hx hb dc_Mo_make_40 rfl hl (by decide) rfl (fun ls hl => ?_)
  have hP : va_P D kc_l [mo_c o mth mty x0 mat mfr mto mgd mrd x1 x2 x3 mhf mhp mcl mck mba (mct + 1) x4 x5 x6 x7 x8 mst x9 x10 x11 x12 mtr mrs x13 x14 x15 x16 mwr x17 mfo, ar_n cI x1 16 rz, ar_i cI x2 128 rl, ar_n cI x5 33 (va_up fz (mct + 1) (rz j)), ar_n cI x4 33 (va_up fs (mct + 1) z), ar_i cI x6 264 (va_cpy rl fl (8 * j) (8 * (mct + 1)) 0)] H := by rw [cy_0]; exact hP
  have hD : va_D A [mo_c o mth mty x0 mat mfr mto mgd mrd x1 x2 x3 mhf mhp mcl mck mba (mct + 1) x4 x5 x6 x7 x8 mst x9 x10 x11 x12 mtr mrs x13 x14 x15 x16 mwr x17 mfo, ar_n cI x1 16 rz, ar_i cI x2 128 rl, ar_n cI x5 33 (va_up fz (mct + 1) (rz j)), ar_n cI x4 33 (va_up fs (mct + 1) z), ar_i cI x6 264 (va_cpy rl fl (8 * j) (8 * (mct + 1)) 0)] := by rw [cy_0]; exact hD
  have lp_41 : ∀ (K : Nat) (k : Nat) (H : Heap) (locs : List Loc) (ls : Array Slot), rz j - k < K → va_P D kc_l [mo_c o mth mty x0 mat mfr mto mgd mrd x1 x2 x3 mhf mhp mcl mck mba (mct + 1) x4 x5 x6 x7 x8 mst x9 x10 x11 x12 mtr mrs x13 x14 x15 x16 mwr x17 mfo, ar_n cI x1 16 rz, ar_i cI x2 128 rl, ar_n cI x5 33 (va_up fz (mct + 1) (rz j)), ar_n cI x4 33 (va_up fs (mct + 1) z), ar_i cI x6 264 (va_cpy rl fl (8 * j) (8 * (mct + 1)) k)] H → va_D A [mo_c o mth mty x0 mat mfr mto mgd mrd x1 x2 x3 mhf mhp mcl mck mba (mct + 1) x4 x5 x6 x7 x8 mst x9 x10 x11 x12 mtr mrs x13 x14 x15 x16 mwr x17 mfo, ar_n cI x1 16 rz, ar_i cI x2 128 rl, ar_n cI x5 33 (va_up fz (mct + 1) (rz j)), ar_n cI x4 33 (va_up fs (mct + 1) z), ar_i cI x6 264 (va_cpy rl fl (8 * j) (8 * (mct + 1)) k)] → va_S A s.heap H locs → lv_has ls 3 [(2, .int (nI k)), (0, .ref o), (1, .int (nI j))] → (k ≤ rz j) → W p l e ({ frames := 2, cells := 0, slots := 0, locals := 43 } : Room) s m ([.ref o, .int (nI j)] : List Value).toArray below meth c H locs 0 0 (MQ below (kw_q none D kc_l [mo_c o mth mty x0 mat mfr mto mgd mrd x1 x2 x3 mhf mhp mcl mck mba (mct + 1) x4 x5 x6 x7 x8 mst x9 x10 x11 x12 mtr mrs x13 x14 x15 x16 mwr x17 mfo, ar_n cI x1 16 rz, ar_i cI x2 128 rl, ar_n cI x5 33 (va_up fz (mct + 1) (rz j)), ar_n cI x4 33 (va_up fs (mct + 1) z), ar_i cI x6 264 (va_cpy rl fl (8 * j) (8 * (mct + 1)) (rz j))] A) ([.ref o, .int (nI j)] : List Value).toArray s 0 0 A) (F0 m 41 ls []) := by
    intro K
    induction K with
    | zero =>
      intro k H locs ls hk
      exact absurd hk (Nat.not_lt_zero _)
    | succ K ih_41 =>
      intro k H locs ls hk hP hD hS hl h2
      refine lv_iload_n hx hb dc_Mo_make_41 rfl (lv_at hl 0 rfl) ?_
      refine lv_aload_n hx hb dc_Mo_make_42 rfl (lv_at hl 1 rfl) ?_
      refine va_get (ci := 10) (v := .ref x1) (C := rn_Mo) (T := fd_Mo) (N := 36) hx hb hts in_Mo hown hK hP 0 rfl rfl 8 (by decide) (hts _ wd_754) (fun _ h9 => h9) rfl dc_Mo_make_43 ?_
      refine lv_iload_n hx hb dc_Mo_make_46 rfl (lv_at hl 2 rfl) ?_
      refine ka_nald (t := rz) hx hb hK hP 1 0 rfl rfl (j := j) (by omega) (by omega) dc_Mo_make_47 ?_
      refine kn_icmp_ge hx hb (by omega) (by omega) dc_Mo_make_48 rfl (fun hc48 => ?_) (fun hc48 => ?_)
      · exact kw_vret hx hb hr hlocks hP hD hS dc_Mo_make_82 (by rw [show k = rz j by omega])
      · refine lv_aload_n hx hb dc_Mo_make_51 rfl (lv_at hl 1 rfl) ?_
        refine va_get (ci := 10) (v := .ref x6) (C := rn_Mo) (T := fd_Mo) (N := 36) hx hb hts in_Mo hown hK hP 0 rfl rfl 19 (by decide) (hts _ wd_765) (fun _ h9 => h9) rfl dc_Mo_make_52 ?_
        refine lv_bipush (v := nI 8) hx hb dc_Mo_make_55 (by decide +kernel) ?_
        refine lv_aload_n hx hb dc_Mo_make_57 rfl (lv_at hl 1 rfl) ?_
        refine va_get (ci := 10) (v := .int (nI (mct + 1))) (C := rn_Mo) (T := fd_Mo) (N := 36) hx hb hts in_Mo hown hK hP 0 rfl rfl 16 (by decide) (hts _ wd_762) (fun _ h9 => h9) rfl dc_Mo_make_58 ?_
        refine kn_imul hx hb dc_Mo_make_61 ?_
        refine lv_iload_n hx hb dc_Mo_make_62 rfl (lv_at hl 0 rfl) ?_
        refine kn_iadd hx hb dc_Mo_make_63 ?_
        refine lv_aload_n hx hb dc_Mo_make_64 rfl (lv_at hl 1 rfl) ?_
        refine va_get (ci := 10) (v := .ref x2) (C := rn_Mo) (T := fd_Mo) (N := 36) hx hb hts in_Mo hown hK hP 0 rfl rfl 9 (by decide) (hts _ wd_755) (fun _ h9 => h9) rfl dc_Mo_make_65 ?_
        refine lv_bipush (v := nI 8) hx hb dc_Mo_make_68 (by decide +kernel) ?_
        refine lv_iload_n hx hb dc_Mo_make_70 rfl (lv_at hl 2 rfl) ?_
        refine kn_imul hx hb dc_Mo_make_71 ?_
        refine lv_iload_n hx hb dc_Mo_make_72 rfl (lv_at hl 0 rfl) ?_
        refine kn_iadd hx hb dc_Mo_make_73 ?_
        refine ka_iald (f := rl) hx hb hK hP 2 0 rfl rfl (j := (8 * j) + k) (by omega) (by omega) dc_Mo_make_74 ?_
        refine ka_iast (f := va_cpy rl fl (8 * j) (8 * (mct + 1)) k) hx hb hK hP hD hS 5 0 rfl rfl (j := (8 * (mct + 1)) + k) (by omega) (by omega) dc_Mo_make_75 (ws' := [mo_c o mth mty x0 mat mfr mto mgd mrd x1 x2 x3 mhf mhp mcl mck mba (mct + 1) x4 x5 x6 x7 x8 mst x9 x10 x11 x12 mtr mrs x13 x14 x15 x16 mwr x17 mfo, ar_n cI x1 16 rz, ar_i cI x2 128 rl, ar_n cI x5 33 (va_up fz (mct + 1) (rz j)), ar_n cI x4 33 (va_up fs (mct + 1) z), ar_i cI x6 264 (upd (va_cpy rl fl (8 * j) (8 * (mct + 1)) k) ((8 * (mct + 1)) + k) (rl ((8 * j) + k)))]) rfl (fun H locs hP hD hS => ?_)
        refine lv_iinc (k := 0) (v := nI (k + 1)) (lv' := [(2, .int (nI (k + 1))), (0, .ref o), (1, .int (nI j))]) hx hb dc_Mo_make_76 hl rfl (nI_1 _) (by decide) rfl (fun ls hl => ?_)
        refine lv_goto hx hb dc_Mo_make_79 rfl ?_
        have hP : va_P D kc_l [mo_c o mth mty x0 mat mfr mto mgd mrd x1 x2 x3 mhf mhp mcl mck mba (mct + 1) x4 x5 x6 x7 x8 mst x9 x10 x11 x12 mtr mrs x13 x14 x15 x16 mwr x17 mfo, ar_n cI x1 16 rz, ar_i cI x2 128 rl, ar_n cI x5 33 (va_up fz (mct + 1) (rz j)), ar_n cI x4 33 (va_up fs (mct + 1) z), ar_i cI x6 264 (va_cpy rl fl (8 * j) (8 * (mct + 1)) (k + 1))] H := by rw [← cy_s rfl]; exact hP
        have hD : va_D A [mo_c o mth mty x0 mat mfr mto mgd mrd x1 x2 x3 mhf mhp mcl mck mba (mct + 1) x4 x5 x6 x7 x8 mst x9 x10 x11 x12 mtr mrs x13 x14 x15 x16 mwr x17 mfo, ar_n cI x1 16 rz, ar_i cI x2 128 rl, ar_n cI x5 33 (va_up fz (mct + 1) (rz j)), ar_n cI x4 33 (va_up fs (mct + 1) z), ar_i cI x6 264 (va_cpy rl fl (8 * j) (8 * (mct + 1)) (k + 1))] := by rw [← cy_s rfl]; exact hD
        exact ih_41 _ _ _ _ (by omega) hP hD hS hl (by omega)
  exact lp_41 _ 0 _ _ _ (Nat.lt_succ_self _) hP hD hS hl (by omega)
