/-! clauses by their numbers -/
theorem ni_lt1 {i : Int32} (h : i < 0) (k : Nat) (hk : k < 2 ^ 31) : i < nI k := by
  rw [Int32.lt_iff_toInt_lt] at h ⊢
  rw [nI_toInt hk]
  have h3 : (0 : Int32).toInt = 0 := rfl
  omega
/-- the greatest number up to k with a property, or 0 -/
def pt_last (P : Nat → Bool) : Nat → Nat
  | 0 => 0
  | k + 1 => if P (k + 1) = true then k + 1 else pt_last P k
theorem pt_last_le (P : Nat → Bool) : ∀ k, pt_last P k ≤ k := by
  intro k
  induction k with
  | zero => exact Nat.le_refl 0
  | succ k ih =>
    rw [pt_last]
    split
    · exact Nat.le_refl _
    · omega
theorem pt_abs : ∀ b, b < 16 → (if 0 ≤ pt_lit b then pt_lit b else 0 - pt_lit b) = nI (b % 8 + 1) := by decide +kernel
theorem pt_var : ∀ b, b < 16 → nI (b % 8 + 1) = pt_lit (b % 8) := by decide +kernel
theorem pt_vneg : ∀ b, b < 16 → -nI (b % 8 + 1) = pt_lit (b % 8 + 8) := by decide +kernel
/-- the number of no literal -/
def pt_no (x : Int32) : Prop := (if 0 ≤ x then x else 0 - x) < nI 1 ∨ nI 8 < (if 0 ≤ x then x else 0 - x)

theorem dc_Cl_has_0 : decode bc_Cl_has 0 = .ok (.iload_n 1, 1) := by decide +kernel
theorem dc_Cl_has_1 : decode bc_Cl_has 1 = .ok (.iconst 1, 1) := by decide +kernel
theorem dc_Cl_has_2 : decode bc_Cl_has 2 = .ok (.if_icmp .lt (15), 3) := by decide +kernel
theorem dc_Cl_has_5 : decode bc_Cl_has 5 = .ok (.iload_n 1, 1) := by decide +kernel
theorem dc_Cl_has_6 : decode bc_Cl_has 6 = .ok (.aload_n 0, 1) := by decide +kernel
theorem dc_Cl_has_7 : decode bc_Cl_has 7 = .ok (.getfield 21, 3) := by decide +kernel
theorem dc_Cl_has_10 : decode bc_Cl_has 10 = .ok (.if_icmp .gt (7), 3) := by decide +kernel
theorem dc_Cl_has_13 : decode bc_Cl_has 13 = .ok (.iconst 1, 1) := by decide +kernel
theorem dc_Cl_has_14 : decode bc_Cl_has 14 = .ok (.goto (4), 3) := by decide +kernel
theorem dc_Cl_has_17 : decode bc_Cl_has 17 = .ok (.iconst 0, 1) := by decide +kernel
theorem dc_Cl_has_18 : decode bc_Cl_has 18 = .ok (.ireturn, 1) := by decide +kernel
theorem dc_Cl_literalAt_0 : decode bc_Cl_literalAt 0 = .ok (.aload_n 0, 1) := by decide +kernel
theorem dc_Cl_literalAt_1 : decode bc_Cl_literalAt 1 = .ok (.iload_n 1, 1) := by decide +kernel
theorem dc_Cl_literalAt_2 : decode bc_Cl_literalAt 2 = .ok (.invokevirtual 25, 3) := by decide +kernel
theorem dc_Cl_literalAt_5 : decode bc_Cl_literalAt 5 = .ok (.ifCond .eq (31), 3) := by decide +kernel
theorem dc_Cl_literalAt_8 : decode bc_Cl_literalAt 8 = .ok (.iload_n 2, 1) := by decide +kernel
theorem dc_Cl_literalAt_9 : decode bc_Cl_literalAt 9 = .ok (.ifCond .lt (27), 3) := by decide +kernel
theorem dc_Cl_literalAt_12 : decode bc_Cl_literalAt 12 = .ok (.iload_n 2, 1) := by decide +kernel
theorem dc_Cl_literalAt_13 : decode bc_Cl_literalAt 13 = .ok (.aload_n 0, 1) := by decide +kernel
theorem dc_Cl_literalAt_14 : decode bc_Cl_literalAt 14 = .ok (.getfield 9, 3) := by decide +kernel
theorem dc_Cl_literalAt_17 : decode bc_Cl_literalAt 17 = .ok (.iload_n 1, 1) := by decide +kernel
theorem dc_Cl_literalAt_18 : decode bc_Cl_literalAt 18 = .ok (.iaload, 1) := by decide +kernel
theorem dc_Cl_literalAt_19 : decode bc_Cl_literalAt 19 = .ok (.if_icmp .ge (17), 3) := by decide +kernel
theorem dc_Cl_literalAt_22 : decode bc_Cl_literalAt 22 = .ok (.aload_n 0, 1) := by decide +kernel
theorem dc_Cl_literalAt_23 : decode bc_Cl_literalAt 23 = .ok (.getfield 18, 3) := by decide +kernel
theorem dc_Cl_literalAt_26 : decode bc_Cl_literalAt 26 = .ok (.iload_n 1, 1) := by decide +kernel
theorem dc_Cl_literalAt_27 : decode bc_Cl_literalAt 27 = .ok (.bipush (8), 2) := by decide +kernel
theorem dc_Cl_literalAt_29 : decode bc_Cl_literalAt 29 = .ok (.imul, 1) := by decide +kernel
theorem dc_Cl_literalAt_30 : decode bc_Cl_literalAt 30 = .ok (.iload_n 2, 1) := by decide +kernel
theorem dc_Cl_literalAt_31 : decode bc_Cl_literalAt 31 = .ok (.iadd, 1) := by decide +kernel
theorem dc_Cl_literalAt_32 : decode bc_Cl_literalAt 32 = .ok (.iaload, 1) := by decide +kernel
theorem dc_Cl_literalAt_33 : decode bc_Cl_literalAt 33 = .ok (.goto (4), 3) := by decide +kernel
theorem dc_Cl_literalAt_36 : decode bc_Cl_literalAt 36 = .ok (.iconst 0, 1) := by decide +kernel
theorem dc_Cl_literalAt_37 : decode bc_Cl_literalAt 37 = .ok (.ireturn, 1) := by decide +kernel
theorem dc_Cl_keep_0 : decode bc_Cl_keep 0 = .ok (.aload_n 0, 1) := by decide +kernel
theorem dc_Cl_keep_1 : decode bc_Cl_keep 1 = .ok (.iload_n 1, 1) := by decide +kernel
theorem dc_Cl_keep_2 : decode bc_Cl_keep 2 = .ok (.putfield 21, 3) := by decide +kernel
theorem dc_Cl_keep_5 : decode bc_Cl_keep 5 = .ok (.return_, 1) := by decide +kernel
theorem dc_Cl_begin_0 : decode bc_Cl_begin 0 = .ok (.aload_n 0, 1) := by decide +kernel
theorem dc_Cl_begin_1 : decode bc_Cl_begin 1 = .ok (.getfield 21, 3) := by decide +kernel
theorem dc_Cl_begin_4 : decode bc_Cl_begin 4 = .ok (.iconst 1, 1) := by decide +kernel
theorem dc_Cl_begin_5 : decode bc_Cl_begin 5 = .ok (.iadd, 1) := by decide +kernel
theorem dc_Cl_begin_6 : decode bc_Cl_begin 6 = .ok (.aload_n 0, 1) := by decide +kernel
theorem dc_Cl_begin_7 : decode bc_Cl_begin 7 = .ok (.getfield 9, 3) := by decide +kernel
theorem dc_Cl_begin_10 : decode bc_Cl_begin 10 = .ok (.arraylength, 1) := by decide +kernel
theorem dc_Cl_begin_11 : decode bc_Cl_begin 11 = .ok (.if_icmp .lt (5), 3) := by decide +kernel
theorem dc_Cl_begin_14 : decode bc_Cl_begin 14 = .ok (.iconst 0, 1) := by decide +kernel
theorem dc_Cl_begin_15 : decode bc_Cl_begin 15 = .ok (.ireturn, 1) := by decide +kernel
theorem dc_Cl_begin_16 : decode bc_Cl_begin 16 = .ok (.aload_n 0, 1) := by decide +kernel
theorem dc_Cl_begin_17 : decode bc_Cl_begin 17 = .ok (.dup, 1) := by decide +kernel
theorem dc_Cl_begin_18 : decode bc_Cl_begin 18 = .ok (.getfield 21, 3) := by decide +kernel
theorem dc_Cl_begin_21 : decode bc_Cl_begin 21 = .ok (.iconst 1, 1) := by decide +kernel
theorem dc_Cl_begin_22 : decode bc_Cl_begin 22 = .ok (.iadd, 1) := by decide +kernel
theorem dc_Cl_begin_23 : decode bc_Cl_begin 23 = .ok (.putfield 21, 3) := by decide +kernel
theorem dc_Cl_begin_26 : decode bc_Cl_begin 26 = .ok (.aload_n 0, 1) := by decide +kernel
theorem dc_Cl_begin_27 : decode bc_Cl_begin 27 = .ok (.getfield 9, 3) := by decide +kernel
theorem dc_Cl_begin_30 : decode bc_Cl_begin 30 = .ok (.aload_n 0, 1) := by decide +kernel
theorem dc_Cl_begin_31 : decode bc_Cl_begin 31 = .ok (.getfield 21, 3) := by decide +kernel
theorem dc_Cl_begin_34 : decode bc_Cl_begin 34 = .ok (.iconst 0, 1) := by decide +kernel
theorem dc_Cl_begin_35 : decode bc_Cl_begin 35 = .ok (.iastore, 1) := by decide +kernel
theorem dc_Cl_begin_36 : decode bc_Cl_begin 36 = .ok (.aload_n 0, 1) := by decide +kernel
theorem dc_Cl_begin_37 : decode bc_Cl_begin 37 = .ok (.getfield 15, 3) := by decide +kernel
theorem dc_Cl_begin_40 : decode bc_Cl_begin 40 = .ok (.aload_n 0, 1) := by decide +kernel
theorem dc_Cl_begin_41 : decode bc_Cl_begin 41 = .ok (.getfield 21, 3) := by decide +kernel
theorem dc_Cl_begin_44 : decode bc_Cl_begin 44 = .ok (.iconst 0, 1) := by decide +kernel
theorem dc_Cl_begin_45 : decode bc_Cl_begin 45 = .ok (.iastore, 1) := by decide +kernel
theorem dc_Cl_begin_46 : decode bc_Cl_begin 46 = .ok (.iconst 1, 1) := by decide +kernel
theorem dc_Cl_begin_47 : decode bc_Cl_begin 47 = .ok (.ireturn, 1) := by decide +kernel
theorem dc_Cl_append_0 : decode bc_Cl_append 0 = .ok (.iload_n 1, 1) := by decide +kernel
theorem dc_Cl_append_1 : decode bc_Cl_append 1 = .ok (.invokestatic 29, 3) := by decide +kernel
theorem dc_Cl_append_4 : decode bc_Cl_append 4 = .ok (.istore_n 2, 1) := by decide +kernel
theorem dc_Cl_append_5 : decode bc_Cl_append 5 = .ok (.aload_n 0, 1) := by decide +kernel
theorem dc_Cl_append_6 : decode bc_Cl_append 6 = .ok (.getfield 21, 3) := by decide +kernel
theorem dc_Cl_append_9 : decode bc_Cl_append 9 = .ok (.iconst 1, 1) := by decide +kernel
theorem dc_Cl_append_10 : decode bc_Cl_append 10 = .ok (.if_icmp .lt (14), 3) := by decide +kernel
theorem dc_Cl_append_13 : decode bc_Cl_append 13 = .ok (.iload_n 2, 1) := by decide +kernel
theorem dc_Cl_append_14 : decode bc_Cl_append 14 = .ok (.iconst 1, 1) := by decide +kernel
theorem dc_Cl_append_15 : decode bc_Cl_append 15 = .ok (.if_icmp .lt (9), 3) := by decide +kernel
theorem dc_Cl_append_18 : decode bc_Cl_append 18 = .ok (.iload_n 2, 1) := by decide +kernel
theorem dc_Cl_append_19 : decode bc_Cl_append 19 = .ok (.bipush (8), 2) := by decide +kernel
theorem dc_Cl_append_21 : decode bc_Cl_append 21 = .ok (.if_icmp .le (5), 3) := by decide +kernel
theorem dc_Cl_append_24 : decode bc_Cl_append 24 = .ok (.iconst 0, 1) := by decide +kernel
theorem dc_Cl_append_25 : decode bc_Cl_append 25 = .ok (.ireturn, 1) := by decide +kernel
theorem dc_Cl_append_26 : decode bc_Cl_append 26 = .ok (.aload_n 0, 1) := by decide +kernel
theorem dc_Cl_append_27 : decode bc_Cl_append 27 = .ok (.getfield 15, 3) := by decide +kernel
theorem dc_Cl_append_30 : decode bc_Cl_append 30 = .ok (.aload_n 0, 1) := by decide +kernel
theorem dc_Cl_append_31 : decode bc_Cl_append 31 = .ok (.getfield 21, 3) := by decide +kernel
theorem dc_Cl_append_34 : decode bc_Cl_append 34 = .ok (.iaload, 1) := by decide +kernel
theorem dc_Cl_append_35 : decode bc_Cl_append 35 = .ok (.iload_n 2, 1) := by decide +kernel
theorem dc_Cl_append_36 : decode bc_Cl_append 36 = .ok (.invokestatic 35, 3) := by decide +kernel
theorem dc_Cl_append_39 : decode bc_Cl_append 39 = .ok (.iload_n 2, 1) := by decide +kernel
theorem dc_Cl_append_40 : decode bc_Cl_append 40 = .ok (.ineg, 1) := by decide +kernel
theorem dc_Cl_append_41 : decode bc_Cl_append 41 = .ok (.invokestatic 35, 3) := by decide +kernel
theorem dc_Cl_append_44 : decode bc_Cl_append 44 = .ok (.ior, 1) := by decide +kernel
theorem dc_Cl_append_45 : decode bc_Cl_append 45 = .ok (.iand, 1) := by decide +kernel
theorem dc_Cl_append_46 : decode bc_Cl_append 46 = .ok (.ifCond .eq (5), 3) := by decide +kernel
theorem dc_Cl_append_49 : decode bc_Cl_append 49 = .ok (.iconst 0, 1) := by decide +kernel
theorem dc_Cl_append_50 : decode bc_Cl_append 50 = .ok (.ireturn, 1) := by decide +kernel
theorem dc_Cl_append_51 : decode bc_Cl_append 51 = .ok (.aload_n 0, 1) := by decide +kernel
theorem dc_Cl_append_52 : decode bc_Cl_append 52 = .ok (.getfield 18, 3) := by decide +kernel
theorem dc_Cl_append_55 : decode bc_Cl_append 55 = .ok (.aload_n 0, 1) := by decide +kernel
theorem dc_Cl_append_56 : decode bc_Cl_append 56 = .ok (.getfield 21, 3) := by decide +kernel
theorem dc_Cl_append_59 : decode bc_Cl_append 59 = .ok (.bipush (8), 2) := by decide +kernel
theorem dc_Cl_append_61 : decode bc_Cl_append 61 = .ok (.imul, 1) := by decide +kernel
theorem dc_Cl_append_62 : decode bc_Cl_append 62 = .ok (.aload_n 0, 1) := by decide +kernel
theorem dc_Cl_append_63 : decode bc_Cl_append 63 = .ok (.getfield 9, 3) := by decide +kernel
theorem dc_Cl_append_66 : decode bc_Cl_append 66 = .ok (.aload_n 0, 1) := by decide +kernel
theorem dc_Cl_append_67 : decode bc_Cl_append 67 = .ok (.getfield 21, 3) := by decide +kernel
theorem dc_Cl_append_70 : decode bc_Cl_append 70 = .ok (.iaload, 1) := by decide +kernel
theorem dc_Cl_append_71 : decode bc_Cl_append 71 = .ok (.iadd, 1) := by decide +kernel
theorem dc_Cl_append_72 : decode bc_Cl_append 72 = .ok (.iload_n 1, 1) := by decide +kernel
theorem dc_Cl_append_73 : decode bc_Cl_append 73 = .ok (.iastore, 1) := by decide +kernel
theorem dc_Cl_append_74 : decode bc_Cl_append 74 = .ok (.aload_n 0, 1) := by decide +kernel
theorem dc_Cl_append_75 : decode bc_Cl_append 75 = .ok (.getfield 9, 3) := by decide +kernel
theorem dc_Cl_append_78 : decode bc_Cl_append 78 = .ok (.aload_n 0, 1) := by decide +kernel
theorem dc_Cl_append_79 : decode bc_Cl_append 79 = .ok (.getfield 21, 3) := by decide +kernel
theorem dc_Cl_append_82 : decode bc_Cl_append 82 = .ok (.dup2, 1) := by decide +kernel
theorem dc_Cl_append_83 : decode bc_Cl_append 83 = .ok (.iaload, 1) := by decide +kernel
theorem dc_Cl_append_84 : decode bc_Cl_append 84 = .ok (.iconst 1, 1) := by decide +kernel
theorem dc_Cl_append_85 : decode bc_Cl_append 85 = .ok (.iadd, 1) := by decide +kernel
theorem dc_Cl_append_86 : decode bc_Cl_append 86 = .ok (.iastore, 1) := by decide +kernel
theorem dc_Cl_append_87 : decode bc_Cl_append 87 = .ok (.aload_n 0, 1) := by decide +kernel
theorem dc_Cl_append_88 : decode bc_Cl_append 88 = .ok (.getfield 15, 3) := by decide +kernel
theorem dc_Cl_append_91 : decode bc_Cl_append 91 = .ok (.aload_n 0, 1) := by decide +kernel
theorem dc_Cl_append_92 : decode bc_Cl_append 92 = .ok (.getfield 21, 3) := by decide +kernel
theorem dc_Cl_append_95 : decode bc_Cl_append 95 = .ok (.dup2, 1) := by decide +kernel
theorem dc_Cl_append_96 : decode bc_Cl_append 96 = .ok (.iaload, 1) := by decide +kernel
theorem dc_Cl_append_97 : decode bc_Cl_append 97 = .ok (.iload_n 1, 1) := by decide +kernel
theorem dc_Cl_append_98 : decode bc_Cl_append 98 = .ok (.invokestatic 35, 3) := by decide +kernel
theorem dc_Cl_append_101 : decode bc_Cl_append 101 = .ok (.ior, 1) := by decide +kernel
theorem dc_Cl_append_102 : decode bc_Cl_append 102 = .ok (.iastore, 1) := by decide +kernel
theorem dc_Cl_append_103 : decode bc_Cl_append 103 = .ok (.iconst 1, 1) := by decide +kernel
theorem dc_Cl_append_104 : decode bc_Cl_append 104 = .ok (.ireturn, 1) := by decide +kernel
theorem dc_Cl_copy_0 : decode bc_Cl_copy 0 = .ok (.aload_n 1, 1) := by decide +kernel
theorem dc_Cl_copy_1 : decode bc_Cl_copy 1 = .ok (.iload_n 2, 1) := by decide +kernel
theorem dc_Cl_copy_2 : decode bc_Cl_copy 2 = .ok (.invokevirtual 25, 3) := by decide +kernel
theorem dc_Cl_copy_5 : decode bc_Cl_copy 5 = .ok (.ifCond .eq (10), 3) := by decide +kernel
theorem dc_Cl_copy_8 : decode bc_Cl_copy 8 = .ok (.aload_n 0, 1) := by decide +kernel
theorem dc_Cl_copy_9 : decode bc_Cl_copy 9 = .ok (.invokevirtual 38, 3) := by decide +kernel
theorem dc_Cl_copy_12 : decode bc_Cl_copy 12 = .ok (.ifCond .ne (4), 3) := by decide +kernel
theorem dc_Cl_copy_15 : decode bc_Cl_copy 15 = .ok (.return_, 1) := by decide +kernel
theorem dc_Cl_copy_16 : decode bc_Cl_copy 16 = .ok (.iconst 0, 1) := by decide +kernel
theorem dc_Cl_copy_17 : decode bc_Cl_copy 17 = .ok (.istore_n 3, 1) := by decide +kernel
theorem dc_Cl_copy_18 : decode bc_Cl_copy 18 = .ok (.iload_n 3, 1) := by decide +kernel
theorem dc_Cl_copy_19 : decode bc_Cl_copy 19 = .ok (.aload_n 1, 1) := by decide +kernel
theorem dc_Cl_copy_20 : decode bc_Cl_copy 20 = .ok (.getfield 9, 3) := by decide +kernel
theorem dc_Cl_copy_23 : decode bc_Cl_copy 23 = .ok (.iload_n 2, 1) := by decide +kernel
theorem dc_Cl_copy_24 : decode bc_Cl_copy 24 = .ok (.iaload, 1) := by decide +kernel
theorem dc_Cl_copy_25 : decode bc_Cl_copy 25 = .ok (.if_icmp .ge (20), 3) := by decide +kernel
theorem dc_Cl_copy_28 : decode bc_Cl_copy 28 = .ok (.aload_n 0, 1) := by decide +kernel
theorem dc_Cl_copy_29 : decode bc_Cl_copy 29 = .ok (.aload_n 1, 1) := by decide +kernel
theorem dc_Cl_copy_30 : decode bc_Cl_copy 30 = .ok (.iload_n 2, 1) := by decide +kernel
theorem dc_Cl_copy_31 : decode bc_Cl_copy 31 = .ok (.iload_n 3, 1) := by decide +kernel
theorem dc_Cl_copy_32 : decode bc_Cl_copy 32 = .ok (.invokevirtual 42, 3) := by decide +kernel
theorem dc_Cl_copy_35 : decode bc_Cl_copy 35 = .ok (.invokevirtual 46, 3) := by decide +kernel
theorem dc_Cl_copy_38 : decode bc_Cl_copy 38 = .ok (.pop, 1) := by decide +kernel
theorem dc_Cl_copy_39 : decode bc_Cl_copy 39 = .ok (.iinc 3 (1), 3) := by decide +kernel
theorem dc_Cl_copy_42 : decode bc_Cl_copy 42 = .ok (.goto (-24), 3) := by decide +kernel
theorem dc_Cl_copy_45 : decode bc_Cl_copy 45 = .ok (.return_, 1) := by decide +kernel
theorem dc_Cl_greatestAlike_0 : decode bc_Cl_greatestAlike 0 = .ok (.aload_n 0, 1) := by decide +kernel
theorem dc_Cl_greatestAlike_1 : decode bc_Cl_greatestAlike 1 = .ok (.getfield 21, 3) := by decide +kernel
theorem dc_Cl_greatestAlike_4 : decode bc_Cl_greatestAlike 4 = .ok (.istore 4, 2) := by decide +kernel
theorem dc_Cl_greatestAlike_6 : decode bc_Cl_greatestAlike 6 = .ok (.iload 4, 2) := by decide +kernel
theorem dc_Cl_greatestAlike_8 : decode bc_Cl_greatestAlike 8 = .ok (.iconst 1, 1) := by decide +kernel
theorem dc_Cl_greatestAlike_9 : decode bc_Cl_greatestAlike 9 = .ok (.if_icmp .lt (32), 3) := by decide +kernel
theorem dc_Cl_greatestAlike_12 : decode bc_Cl_greatestAlike 12 = .ok (.lload_n 1, 1) := by decide +kernel
theorem dc_Cl_greatestAlike_13 : decode bc_Cl_greatestAlike 13 = .ok (.iload 4, 2) := by decide +kernel
theorem dc_Cl_greatestAlike_15 : decode bc_Cl_greatestAlike 15 = .ok (.invokestatic 49, 3) := by decide +kernel
theorem dc_Cl_greatestAlike_18 : decode bc_Cl_greatestAlike 18 = .ok (.ifCond .eq (17), 3) := by decide +kernel
theorem dc_Cl_greatestAlike_21 : decode bc_Cl_greatestAlike 21 = .ok (.aload_n 0, 1) := by decide +kernel
theorem dc_Cl_greatestAlike_22 : decode bc_Cl_greatestAlike 22 = .ok (.getfield 15, 3) := by decide +kernel
theorem dc_Cl_greatestAlike_25 : decode bc_Cl_greatestAlike 25 = .ok (.iload 4, 2) := by decide +kernel
theorem dc_Cl_greatestAlike_27 : decode bc_Cl_greatestAlike 27 = .ok (.iaload, 1) := by decide +kernel
theorem dc_Cl_greatestAlike_28 : decode bc_Cl_greatestAlike 28 = .ok (.iload_n 3, 1) := by decide +kernel
theorem dc_Cl_greatestAlike_29 : decode bc_Cl_greatestAlike 29 = .ok (.if_icmp .ne (6), 3) := by decide +kernel
theorem dc_Cl_greatestAlike_32 : decode bc_Cl_greatestAlike 32 = .ok (.iload 4, 2) := by decide +kernel
theorem dc_Cl_greatestAlike_34 : decode bc_Cl_greatestAlike 34 = .ok (.ireturn, 1) := by decide +kernel
theorem dc_Cl_greatestAlike_35 : decode bc_Cl_greatestAlike 35 = .ok (.iinc 4 (-1), 3) := by decide +kernel
theorem dc_Cl_greatestAlike_38 : decode bc_Cl_greatestAlike 38 = .ok (.goto (-32), 3) := by decide +kernel
theorem dc_Cl_greatestAlike_41 : decode bc_Cl_greatestAlike 41 = .ok (.iconst 0, 1) := by decide +kernel
theorem dc_Cl_greatestAlike_42 : decode bc_Cl_greatestAlike 42 = .ok (.ireturn, 1) := by decide +kernel
set_option maxHeartbeats 4000000 in
set_option maxRecDepth 100000 in
theorem ct_Cl_has (l : Launch) (D : va_G) (cI cZ : ClassId) (sz : Nat) (o : Nat) (qa : Nat) (qb : Nat) (qd : Nat) (n : Nat) (j : Nat) (hn : n < 2 ^ 31) (hj : j < 2 ^ 31) : Met l yn_Cl_has (Cond.code yn_Cl_has bc_Cl_has 2 (some .boolean) :: kx_all) ({ frames := 0, cells := 0, slots := 0, locals := 0 } : Room) (kp [.ref o, .int (nI j)] D cI cZ [cl_c o qa qb qd n] sz) (kr_q (some (.int (kb_i (decide (1 ≤ j ∧ j ≤ n)))))) 0 0 (fun _ => False) := by
  refine kx_met (by decide) (Nat.le_of_ble_eq_true rfl) ?_
  intro p e s m below meth c ls hx hb hr hml hts hown hlocks hin hsz hP hK hD hN hl
  have hown : s.vm.findClass rn_Cl = some m.cls := hown
  have hl : lv_has ls 2 [(0, .ref o), (1, .int (nI j))] := hl
  refine lv_iload_n hx hb dc_Cl_has_0 rfl (lv_at hl 1 rfl) ?_
  refine lv_iconst (v := nI 1) hx hb dc_Cl_has_1 (by decide +kernel) ?_
  refine kn_icmp_lt hx hb (by omega) (by omega) dc_Cl_has_2 rfl (fun hc2 => ?_) (fun hc2 => ?_)
  · refine lv_iconst (v := nI 0) hx hb dc_Cl_has_17 (by decide +kernel) ?_
    refine kn_top (y := kb_i false) (by decide +kernel) ?_
    exact kr_zret hx hb hr hlocks dc_Cl_has_18 ((decide_eq_false (by omega)).symm)
  · refine lv_iload_n hx hb dc_Cl_has_5 rfl (lv_at hl 1 rfl) ?_
    refine lv_aload_n hx hb dc_Cl_has_6 rfl (lv_at hl 0 rfl) ?_
    refine va_get (ci := 2) (v := .int (nI n)) (C := rn_Cl) (T := fd_Cl) (N := 4) hx hb hts in_Cl hown hK hP 0 rfl rfl 3 (by decide) (hts _ wd_73) (fun _ h9 => h9) rfl dc_Cl_has_7 ?_
    refine kn_icmp_gt hx hb (by omega) (by omega) dc_Cl_has_10 rfl (fun hc10 => ?_) (fun hc10 => ?_)
    · refine lv_iconst (v := nI 0) hx hb dc_Cl_has_17 (by decide +kernel) ?_
      refine kn_top (y := kb_i false) (by decide +kernel) ?_
      exact kr_zret hx hb hr hlocks dc_Cl_has_18 ((decide_eq_false (by omega)).symm)
    · refine lv_iconst (v := nI 1) hx hb dc_Cl_has_13 (by decide +kernel) ?_
      refine lv_goto hx hb dc_Cl_has_14 rfl ?_
      refine kn_top (y := kb_i true) (by decide +kernel) ?_
      exact kr_zret hx hb hr hlocks dc_Cl_has_18 ((decide_eq_true (by omega)).symm)

set_option maxHeartbeats 4000000 in
set_option maxRecDepth 100000 in
theorem ct_Cl_has_neg (l : Launch) (D : va_G) (cI cZ : ClassId) (sz : Nat) (o : Nat) (qa : Nat) (qb : Nat) (qd : Nat) (n : Nat) (i : Int32) (hi : i < 0) : Met l yn_Cl_has (Cond.code yn_Cl_has bc_Cl_has 2 (some .boolean) :: kx_all) ({ frames := 0, cells := 0, slots := 0, locals := 0 } : Room) (kp [.ref o, .int i] D cI cZ [cl_c o qa qb qd n] sz) (kr_q (some (.int (kb_i false)))) 0 0 (fun _ => False) := by
  refine kx_met (by decide) (Nat.le_of_ble_eq_true rfl) ?_
  intro p e s m below meth c ls hx hb hr hml hts hown hlocks hin hsz hP hK hD hN hl
  have hown : s.vm.findClass rn_Cl = some m.cls := hown
  have hl : lv_has ls 2 [(0, .ref o), (1, .int i)] := hl
  refine lv_iload_n hx hb dc_Cl_has_0 rfl (lv_at hl 1 rfl) ?_
  refine lv_iconst (v := nI 1) hx hb dc_Cl_has_1 (by decide +kernel) ?_
  refine lv_icmp_lt hx hb dc_Cl_has_2 rfl (fun hc2 => ?_) (fun hc2 => ?_)
  · refine lv_iconst (v := nI 0) hx hb dc_Cl_has_17 (by decide +kernel) ?_
    refine kn_top (y := kb_i false) (by decide +kernel) ?_
    exact kr_zret hx hb hr hlocks dc_Cl_has_18 (rfl)
  · exact absurd (ni_lt1 hi 1 (by decide)) hc2

set_option maxHeartbeats 4000000 in
set_option maxRecDepth 100000 in
theorem ct_Cl_literalAt (l : Launch) (D : va_G) (cI cZ : ClassId) (sz : Nat) (o : Nat) (qa : Nat) (qb : Nat) (qd : Nat) (N : Nat) (n : Nat) (fz : Nat → Nat) (fs : Nat → Nat) (fl : Nat → Int32) (j : Nat) (k : Nat) (hNb : N < 2 ^ 20) (hnN : n < N) (hz : ∀ j, 1 ≤ j → j ≤ n → fz j ≤ 8) (hj : j < 2 ^ 31) (hk : k < 2 ^ 31) : Met l yn_Cl_literalAt (Cond.code yn_Cl_literalAt bc_Cl_literalAt 3 (some .int) :: kx_all) ({ frames := 1, cells := 0, slots := 0, locals := 21 } : Room) (kp [.ref o, .int (nI j), .int (nI k)] D cI cZ [cl_c o qa qb qd n, ar_n cI qa N fz, ar_n cI qb N fs, ar_i cI qd (N * 8) fl] sz) (kr_q (some (.int (if (1 ≤ j ∧ j ≤ n) ∧ k < fz j then fl (j * 8 + k) else 0)))) 0 0 (fun _ => False) := by
  refine kx_met (by decide) (Nat.le_of_ble_eq_true rfl) ?_
  intro p e s m below meth c ls hx hb hr hml hts hown hlocks hin hsz hP hK hD hN hl
  have hown : s.vm.findClass rn_Cl = some m.cls := hown
  have hl : lv_has ls 3 [(0, .ref o), (1, .int (nI j)), (2, .int (nI k))] := hl
  refine lv_aload_n hx hb dc_Cl_literalAt_0 rfl (lv_at hl 0 rfl) ?_
  refine lv_iload_n hx hb dc_Cl_literalAt_1 rfl (lv_at hl 1 rfl) ?_
  refine kr_call1 (va_runV (As := [.int (nI j)]) (rest := []) ⟨hx, hb, hml, hown, hts⟩ (ct_Cl_has l D cI cZ _ o qa qb qd n j (by omega) (by omega)) (cwV 1 hts (kx_gV wd_251 wd_240 wd_241 wd_4 wd_242) rfl rfl rfl ⟨rfl, yd_Cl_has⟩ ⟨Nat.le_of_ble_eq_true rfl, Nat.le_of_ble_eq_true rfl⟩) (kp_V (q0 := 0) (ci := 2) hP hD hK hN [0] rfl rfl rfl rfl rfl) rfl rfl hl.1 rfl (lv_room (Nat.le_of_ble_eq_true rfl)) dc_Cl_literalAt_2 ⟨Nat.le_of_ble_eq_true rfl, Nat.le_of_ble_eq_true rfl⟩) ?_
  refine kb_if_eq hx hb dc_Cl_literalAt_5 rfl (fun hc5 => ?_) (fun hc5 => ?_)
  · have hc5 := of_decide_eq_false hc5
    refine lv_iconst (v := nI 0) hx hb dc_Cl_literalAt_36 (by decide +kernel) ?_
    exact kr_iret hx hb hr hlocks dc_Cl_literalAt_37 ((if_neg (fun q => hc5 q.1)).symm)
  · have hc5 := of_decide_eq_true hc5
    refine lv_iload_n hx hb dc_Cl_literalAt_8 rfl (lv_at hl 2 rfl) ?_
    refine lv_if_lt hx hb dc_Cl_literalAt_9 rfl (fun hc9 => ?_) (fun hc9 => ?_)
    · exact absurd hc9 (nI_pos (by omega))
    · refine lv_iload_n hx hb dc_Cl_literalAt_12 rfl (lv_at hl 2 rfl) ?_
      refine lv_aload_n hx hb dc_Cl_literalAt_13 rfl (lv_at hl 0 rfl) ?_
      refine va_get (ci := 2) (v := .ref qa) (C := rn_Cl) (T := fd_Cl) (N := 4) hx hb hts in_Cl hown hK hP 0 rfl rfl 0 (by decide) (hts _ wd_63) (fun _ h9 => h9) rfl dc_Cl_literalAt_14 ?_
      refine lv_iload_n hx hb dc_Cl_literalAt_17 rfl (lv_at hl 1 rfl) ?_
      refine ka_nald (t := fz) hx hb hK hP 1 0 rfl rfl (j := j) (by omega) (by omega) dc_Cl_literalAt_18 ?_
      refine kn_icmp_ge hx hb (by omega) (Nat.lt_of_le_of_lt (hz j (by omega) (by omega)) (by decide)) dc_Cl_literalAt_19 rfl (fun hc19 => ?_) (fun hc19 => ?_)
      · refine lv_iconst (v := nI 0) hx hb dc_Cl_literalAt_36 (by decide +kernel) ?_
        exact kr_iret hx hb hr hlocks dc_Cl_literalAt_37 ((if_neg (fun q => by omega)).symm)
      · refine lv_aload_n hx hb dc_Cl_literalAt_22 rfl (lv_at hl 0 rfl) ?_
        refine va_get (ci := 2) (v := .ref qd) (C := rn_Cl) (T := fd_Cl) (N := 4) hx hb hts in_Cl hown hK hP 0 rfl rfl 2 (by decide) (hts _ wd_72) (fun _ h9 => h9) rfl dc_Cl_literalAt_23 ?_
        refine lv_iload_n hx hb dc_Cl_literalAt_26 rfl (lv_at hl 1 rfl) ?_
        refine lv_bipush (v := nI 8) hx hb dc_Cl_literalAt_27 (by decide +kernel) ?_
        refine kn_imul hx hb dc_Cl_literalAt_29 ?_
        refine lv_iload_n hx hb dc_Cl_literalAt_30 rfl (lv_at hl 2 rfl) ?_
        refine kn_iadd hx hb dc_Cl_literalAt_31 ?_
        refine ka_iald (f := fl) hx hb hK hP 3 0 rfl rfl (j := (j * 8) + k) (by have := hz j (by omega) (by omega); omega) (by omega) dc_Cl_literalAt_32 ?_
        refine lv_goto hx hb dc_Cl_literalAt_33 rfl ?_
        exact kr_iret hx hb hr hlocks dc_Cl_literalAt_37 ((if_pos ⟨hc5, hc19⟩).symm)

set_option maxHeartbeats 4000000 in
set_option maxRecDepth 100000 in
theorem ct_Cl_literalAt_neg (l : Launch) (D : va_G) (cI cZ : ClassId) (sz : Nat) (o : Nat) (qa : Nat) (qb : Nat) (qd : Nat) (n : Nat) (i : Int32) (y : Int32) (hi : i < 0) : Met l yn_Cl_literalAt (Cond.code yn_Cl_literalAt bc_Cl_literalAt 3 (some .int) :: kx_all) ({ frames := 1, cells := 0, slots := 0, locals := 21 } : Room) (kp [.ref o, .int i, .int y] D cI cZ [cl_c o qa qb qd n] sz) (kr_q (some (.int 0))) 0 0 (fun _ => False) := by
  refine kx_met (by decide) (Nat.le_of_ble_eq_true rfl) ?_
  intro p e s m below meth c ls hx hb hr hml hts hown hlocks hin hsz hP hK hD hN hl
  have hown : s.vm.findClass rn_Cl = some m.cls := hown
  have hl : lv_has ls 3 [(0, .ref o), (1, .int i), (2, .int y)] := hl
  refine lv_aload_n hx hb dc_Cl_literalAt_0 rfl (lv_at hl 0 rfl) ?_
  refine lv_iload_n hx hb dc_Cl_literalAt_1 rfl (lv_at hl 1 rfl) ?_
  refine kr_call1 (va_runV (As := [.int i]) (rest := []) ⟨hx, hb, hml, hown, hts⟩ (ct_Cl_has_neg l D cI cZ _ o qa qb qd n i (by omega)) (cwV 1 hts (kx_gV wd_251 wd_240 wd_241 wd_4 wd_242) rfl rfl rfl ⟨rfl, yd_Cl_has⟩ ⟨Nat.le_of_ble_eq_true rfl, Nat.le_of_ble_eq_true rfl⟩) (kp_V (q0 := 0) (ci := 2) hP hD hK hN [0] rfl rfl rfl rfl rfl) rfl rfl hl.1 rfl (lv_room (Nat.le_of_ble_eq_true rfl)) dc_Cl_literalAt_2 ⟨Nat.le_of_ble_eq_true rfl, Nat.le_of_ble_eq_true rfl⟩) ?_
  refine kb_if_eq hx hb dc_Cl_literalAt_5 rfl (fun hc5 => ?_) (fun hc5 => ?_)
  · refine lv_iconst (v := nI 0) hx hb dc_Cl_literalAt_36 (by decide +kernel) ?_
    exact kr_iret hx hb hr hlocks dc_Cl_literalAt_37 (rfl)
  · exact absurd hc5 (by decide)

set_option maxHeartbeats 4000000 in
set_option maxRecDepth 100000 in
theorem ct_Cl_literalAt_k (l : Launch) (D : va_G) (cI cZ : ClassId) (sz : Nat) (o : Nat) (qa : Nat) (qb : Nat) (qd : Nat) (n : Nat) (j : Nat) (i : Int32) (hn : n < 2 ^ 31) (hj : j < 2 ^ 31) (hi : i < 0) : Met l yn_Cl_literalAt (Cond.code yn_Cl_literalAt bc_Cl_literalAt 3 (some .int) :: kx_all) ({ frames := 1, cells := 0, slots := 0, locals := 21 } : Room) (kp [.ref o, .int (nI j), .int i] D cI cZ [cl_c o qa qb qd n] sz) (kr_q (some (.int 0))) 0 0 (fun _ => False) := by
  refine kx_met (by decide) (Nat.le_of_ble_eq_true rfl) ?_
  intro p e s m below meth c ls hx hb hr hml hts hown hlocks hin hsz hP hK hD hN hl
  have hown : s.vm.findClass rn_Cl = some m.cls := hown
  have hl : lv_has ls 3 [(0, .ref o), (1, .int (nI j)), (2, .int i)] := hl
  refine lv_aload_n hx hb dc_Cl_literalAt_0 rfl (lv_at hl 0 rfl) ?_
  refine lv_iload_n hx hb dc_Cl_literalAt_1 rfl (lv_at hl 1 rfl) ?_
  refine kr_call1 (va_runV (As := [.int (nI j)]) (rest := []) ⟨hx, hb, hml, hown, hts⟩ (ct_Cl_has l D cI cZ _ o qa qb qd n j (by omega) (by omega)) (cwV 1 hts (kx_gV wd_251 wd_240 wd_241 wd_4 wd_242) rfl rfl rfl ⟨rfl, yd_Cl_has⟩ ⟨Nat.le_of_ble_eq_true rfl, Nat.le_of_ble_eq_true rfl⟩) (kp_V (q0 := 0) (ci := 2) hP hD hK hN [0] rfl rfl rfl rfl rfl) rfl rfl hl.1 rfl (lv_room (Nat.le_of_ble_eq_true rfl)) dc_Cl_literalAt_2 ⟨Nat.le_of_ble_eq_true rfl, Nat.le_of_ble_eq_true rfl⟩) ?_
  refine kb_if_eq hx hb dc_Cl_literalAt_5 rfl (fun hc5 => ?_) (fun hc5 => ?_)
  · refine lv_iconst (v := nI 0) hx hb dc_Cl_literalAt_36 (by decide +kernel) ?_
    exact kr_iret hx hb hr hlocks dc_Cl_literalAt_37 (rfl)
  · refine lv_iload_n hx hb dc_Cl_literalAt_8 rfl (lv_at hl 2 rfl) ?_
    refine lv_if_lt hx hb dc_Cl_literalAt_9 rfl (fun hc9 => ?_) (fun hc9 => ?_)
    · refine lv_iconst (v := nI 0) hx hb dc_Cl_literalAt_36 (by decide +kernel) ?_
      exact kr_iret hx hb hr hlocks dc_Cl_literalAt_37 (rfl)
    · exact absurd hi hc9

set_option maxHeartbeats 4000000 in
set_option maxRecDepth 100000 in
theorem ct_Cl_keep (l : Launch) (D : va_G) (cI cZ : ClassId) (sz : Nat) (o : Nat) (qa : Nat) (qb : Nat) (qd : Nat) (n : Nat) (k : Nat)  : Met l yn_Cl_keep (Cond.code yn_Cl_keep bc_Cl_keep 2 none :: kx_all) ({ frames := 0, cells := 0, slots := 0, locals := 0 } : Room) (kp [.ref o, .int (nI k)] D cI cZ [cl_c o qa qb qd n] sz) (kw_q none D kc_l [cl_c o qa qb qd k] (va_A [cl_c o qa qb qd n] sz)) 0 0 (va_A [cl_c o qa qb qd n] sz) := by
  refine kx_metW (by decide) (Nat.le_of_ble_eq_true rfl) ?_
  intro p e s m below meth c ls A hx hb hr hml hts hown hlocks hin hA hP hK hD hN hl hS
  have hown : s.vm.findClass rn_Cl = some m.cls := hown
  have hl : lv_has ls 2 [(0, .ref o), (1, .int (nI k))] := hl
  refine lv_aload_n hx hb dc_Cl_keep_0 rfl (lv_at hl 0 rfl) ?_
  refine lv_iload_n hx hb dc_Cl_keep_1 rfl (lv_at hl 1 rfl) ?_
  refine va_put (ci := 2) (v := .int (nI k)) (ty := .int) (C := rn_Cl) (T := fd_Cl) (N := 4) hx hb hts in_Cl ty_Cl tk_Cl nm_Cl hown hK hP hD hS 0 rfl rfl 3 (by decide) (hts _ wd_73) (fun _ h9 => h9) rfl (by decide +kernel) rfl rfl (Nat.le_of_ble_eq_true rfl) dc_Cl_keep_2 (fun H locs hP hD hS => ?_)
  have hP : va_P D kc_l [cl_c o qa qb qd k] H := hP
  have hD : va_D A [cl_c o qa qb qd k] := hD
  exact kw_vret hx hb hr hlocks hP hD hS dc_Cl_keep_5 (rfl)

set_option maxHeartbeats 4000000 in
set_option maxRecDepth 100000 in
theorem ct_Cl_begin (l : Launch) (D : va_G) (cI cZ : ClassId) (sz : Nat) (o : Nat) (qa : Nat) (qb : Nat) (qd : Nat) (N : Nat) (n : Nat) (fz : Nat → Nat) (fs : Nat → Nat) (fl : Nat → Int32) (hNb : N < 2 ^ 20) (hnN : n + 1 < N) : Met l yn_Cl_begin (Cond.code yn_Cl_begin bc_Cl_begin 1 (some .boolean) :: kx_all) ({ frames := 0, cells := 0, slots := 0, locals := 0 } : Room) (kp [.ref o] D cI cZ [cl_c o qa qb qd n, ar_n cI qa N fz, ar_n cI qb N fs, ar_i cI qd (N * 8) fl] sz) (kw_q (some (.int (kb_i true))) D kc_l [cl_c o qa qb qd (n + 1), ar_n cI qa N (va_up fz (n + 1) 0), ar_n cI qb N (va_up fs (n + 1) 0), ar_i cI qd (N * 8) fl] (va_A [cl_c o qa qb qd n, ar_n cI qa N fz, ar_n cI qb N fs, ar_i cI qd (N * 8) fl] sz)) 0 0 (va_A [cl_c o qa qb qd n, ar_n cI qa N fz, ar_n cI qb N fs, ar_i cI qd (N * 8) fl] sz) := by
  refine kx_metW (by decide) (Nat.le_of_ble_eq_true rfl) ?_
  intro p e s m below meth c ls A hx hb hr hml hts hown hlocks hin hA hP hK hD hN hl hS
  have hown : s.vm.findClass rn_Cl = some m.cls := hown
  have hl : lv_has ls 1 [(0, .ref o)] := hl
  refine lv_aload_n hx hb dc_Cl_begin_0 rfl (lv_at hl 0 rfl) ?_
  refine va_get (ci := 2) (v := .int (nI n)) (C := rn_Cl) (T := fd_Cl) (N := 4) hx hb hts in_Cl hown hK hP 0 rfl rfl 3 (by decide) (hts _ wd_73) (fun _ h9 => h9) rfl dc_Cl_begin_1 ?_
  refine lv_iconst (v := nI 1) hx hb dc_Cl_begin_4 (by decide +kernel) ?_
  refine kn_iadd hx hb dc_Cl_begin_5 ?_
  refine lv_aload_n hx hb dc_Cl_begin_6 rfl (lv_at hl 0 rfl) ?_
  refine va_get (ci := 2) (v := .ref qa) (C := rn_Cl) (T := fd_Cl) (N := 4) hx hb hts in_Cl hown hK hP 0 rfl rfl 0 (by decide) (hts _ wd_63) (fun _ h9 => h9) rfl dc_Cl_begin_7 ?_
  refine va_alen (v := nI N) hx hb hK hP 1 0 rfl rfl rfl dc_Cl_begin_10 ?_
  refine kn_icmp_lt hx hb (by omega) (by omega) dc_Cl_begin_11 rfl (fun hc11 => ?_) (fun hc11 => ?_)
  · refine lv_aload_n hx hb dc_Cl_begin_16 rfl (lv_at hl 0 rfl) ?_
    refine lv_dup hx hb dc_Cl_begin_17 rfl ?_
    refine va_get (ci := 2) (v := .int (nI n)) (C := rn_Cl) (T := fd_Cl) (N := 4) hx hb hts in_Cl hown hK hP 0 rfl rfl 3 (by decide) (hts _ wd_73) (fun _ h9 => h9) rfl dc_Cl_begin_18 ?_
    refine lv_iconst (v := nI 1) hx hb dc_Cl_begin_21 (by decide +kernel) ?_
    refine kn_iadd hx hb dc_Cl_begin_22 ?_
    refine va_put (ci := 2) (v := .int (nI (n + 1))) (ty := .int) (C := rn_Cl) (T := fd_Cl) (N := 4) hx hb hts in_Cl ty_Cl tk_Cl nm_Cl hown hK hP hD hS 0 rfl rfl 3 (by decide) (hts _ wd_73) (fun _ h9 => h9) rfl (by decide +kernel) rfl rfl (Nat.le_of_ble_eq_true rfl) dc_Cl_begin_23 (fun H locs hP hD hS => ?_)
    have hP : va_P D kc_l [cl_c o qa qb qd (n + 1), ar_n cI qa N fz, ar_n cI qb N fs, ar_i cI qd (N * 8) fl] H := hP
    have hD : va_D A [cl_c o qa qb qd (n + 1), ar_n cI qa N fz, ar_n cI qb N fs, ar_i cI qd (N * 8) fl] := hD
    refine lv_aload_n hx hb dc_Cl_begin_26 rfl (lv_at hl 0 rfl) ?_
    refine va_get (ci := 2) (v := .ref qa) (C := rn_Cl) (T := fd_Cl) (N := 4) hx hb hts in_Cl hown hK hP 0 rfl rfl 0 (by decide) (hts _ wd_63) (fun _ h9 => h9) rfl dc_Cl_begin_27 ?_
    refine lv_aload_n hx hb dc_Cl_begin_30 rfl (lv_at hl 0 rfl) ?_
    refine va_get (ci := 2) (v := .int (nI (n + 1))) (C := rn_Cl) (T := fd_Cl) (N := 4) hx hb hts in_Cl hown hK hP 0 rfl rfl 3 (by decide) (hts _ wd_73) (fun _ h9 => h9) rfl dc_Cl_begin_31 ?_
    refine lv_iconst (v := nI 0) hx hb dc_Cl_begin_34 (by decide +kernel) ?_
    refine ka_nast (t := fz) hx hb hK hP hD hS 1 0 rfl rfl (j := n + 1) (by omega) (by omega) dc_Cl_begin_35 (ws' := [cl_c o qa qb qd (n + 1), ar_n cI qa N (va_up fz (n + 1) 0), ar_n cI qb N fs, ar_i cI qd (N * 8) fl]) rfl (fun H locs hP hD hS => ?_)
    refine lv_aload_n hx hb dc_Cl_begin_36 rfl (lv_at hl 0 rfl) ?_
    refine va_get (ci := 2) (v := .ref qb) (C := rn_Cl) (T := fd_Cl) (N := 4) hx hb hts in_Cl hown hK hP 0 rfl rfl 1 (by decide) (hts _ wd_68) (fun _ h9 => h9) rfl dc_Cl_begin_37 ?_
    refine lv_aload_n hx hb dc_Cl_begin_40 rfl (lv_at hl 0 rfl) ?_
    refine va_get (ci := 2) (v := .int (nI (n + 1))) (C := rn_Cl) (T := fd_Cl) (N := 4) hx hb hts in_Cl hown hK hP 0 rfl rfl 3 (by decide) (hts _ wd_73) (fun _ h9 => h9) rfl dc_Cl_begin_41 ?_
    refine lv_iconst (v := nI 0) hx hb dc_Cl_begin_44 (by decide +kernel) ?_
    refine ka_nast (t := fs) hx hb hK hP hD hS 2 0 rfl rfl (j := n + 1) (by omega) (by omega) dc_Cl_begin_45 (ws' := [cl_c o qa qb qd (n + 1), ar_n cI qa N (va_up fz (n + 1) 0), ar_n cI qb N (va_up fs (n + 1) 0), ar_i cI qd (N * 8) fl]) rfl (fun H locs hP hD hS => ?_)
    refine lv_iconst (v := nI 1) hx hb dc_Cl_begin_46 (by decide +kernel) ?_
    refine kn_top (y := kb_i true) (by decide +kernel) ?_
    exact kw_zret hx hb hr hlocks hP hD hS dc_Cl_begin_47 (rfl) (rfl)
  · exfalso; omega

set_option maxHeartbeats 4000000 in
set_option maxRecDepth 100000 in
theorem ct_Cl_append (l : Launch) (D : va_G) (cI cZ : ClassId) (sz : Nat) (o : Nat) (qa : Nat) (qb : Nat) (qd : Nat) (N : Nat) (n : Nat) (fz : Nat → Nat) (fs : Nat → Nat) (fl : Nat → Int32) (b : Nat) (hNb : N < 2 ^ 20) (hnN : n < N) (hb16 : b < 16) (hn1 : 1 ≤ n) (hs16 : fs n < 65536) (hfr : fs n &&& (2 ^ (b % 8) ||| 2 ^ (b % 8 + 8)) = 0) (h8 : fz n < 8) : Met l yn_Cl_append (Cond.code yn_Cl_append bc_Cl_append 3 (some .boolean) :: kx_all) ({ frames := 1, cells := 0, slots := 0, locals := 20 } : Room) (kp [.ref o, .int (pt_lit b)] D cI cZ [cl_c o qa qb qd n, ar_n cI qa N fz, ar_n cI qb N fs, ar_i cI qd (N * 8) fl] sz) (kw_q (some (.int (kb_i true))) D kc_l [cl_c o qa qb qd n, ar_n cI qa N (va_up fz n (fz n + 1)), ar_n cI qb N (va_up fs n (fs n ||| 2 ^ b)), ar_i cI qd (N * 8) (upd fl (n * 8 + fz n) (pt_lit b))] (va_A [cl_c o qa qb qd n, ar_n cI qa N fz, ar_n cI qb N fs, ar_i cI qd (N * 8) fl] sz)) 0 0 (va_A [cl_c o qa qb qd n, ar_n cI qa N fz, ar_n cI qb N fs, ar_i cI qd (N * 8) fl] sz) := by
  refine kx_metW (by decide) (Nat.le_of_ble_eq_true rfl) ?_
  intro p e s m below meth c ls A hx hb hr hml hts hown hlocks hin hA hP hK hD hN hl hS
  have hown : s.vm.findClass rn_Cl = some m.cls := hown
  have hl : lv_has ls 3 [(0, .ref o), (1, .int (pt_lit b))] := hl
  refine lv_iload_n hx hb dc_Cl_append_0 rfl (lv_at hl 1 rfl) ?_
  refine va_mabs hx hb (by rw [hml]; exact hl.1.symm) hown (hts _ wd_413) (hts _ wd_407) (hts _ wd_5) (hts _ wd_408) (Nat.le_of_ble_eq_true rfl) (Nat.le_of_ble_eq_true rfl) (Nat.le_of_ble_eq_true rfl) (Nat.le_of_ble_eq_true rfl) dc_Cl_append_1 ?_
  refine kn_top (y := nI (b % 8 + 1)) (pt_abs b hb16) ?_
  refine lv_istore_n (lv' := [(2, .int (nI (b % 8 + 1))), (0, .ref o), (1, .int (pt_lit b))]) hx hb dc_Cl_append_4 rfl hl (by decide) rfl (fun ls hl => ?_)
  refine lv_aload_n hx hb dc_Cl_append_5 rfl (lv_at hl 1 rfl) ?_
  refine va_get (ci := 2) (v := .int (nI n)) (C := rn_Cl) (T := fd_Cl) (N := 4) hx hb hts in_Cl hown hK hP 0 rfl rfl 3 (by decide) (hts _ wd_73) (fun _ h9 => h9) rfl dc_Cl_append_6 ?_
  refine lv_iconst (v := nI 1) hx hb dc_Cl_append_9 (by decide +kernel) ?_
  refine kn_icmp_lt hx hb (by omega) (by omega) dc_Cl_append_10 rfl (fun hc10 => ?_) (fun hc10 => ?_)
  · exfalso; omega
  · refine lv_iload_n hx hb dc_Cl_append_13 rfl (lv_at hl 0 rfl) ?_
    refine lv_iconst (v := nI 1) hx hb dc_Cl_append_14 (by decide +kernel) ?_
    refine kn_icmp_lt hx hb (by omega) (by omega) dc_Cl_append_15 rfl (fun hc15 => ?_) (fun hc15 => ?_)
    · exfalso; omega
    · refine lv_iload_n hx hb dc_Cl_append_18 rfl (lv_at hl 0 rfl) ?_
      refine lv_bipush (v := nI 8) hx hb dc_Cl_append_19 (by decide +kernel) ?_
      refine kn_icmp_le hx hb (by omega) (by omega) dc_Cl_append_21 rfl (fun hc21 => ?_) (fun hc21 => ?_)
      · refine lv_aload_n hx hb dc_Cl_append_26 rfl (lv_at hl 1 rfl) ?_
        refine va_get (ci := 2) (v := .ref qb) (C := rn_Cl) (T := fd_Cl) (N := 4) hx hb hts in_Cl hown hK hP 0 rfl rfl 1 (by decide) (hts _ wd_68) (fun _ h9 => h9) rfl dc_Cl_append_27 ?_
        refine lv_aload_n hx hb dc_Cl_append_30 rfl (lv_at hl 1 rfl) ?_
        refine va_get (ci := 2) (v := .int (nI n)) (C := rn_Cl) (T := fd_Cl) (N := 4) hx hb hts in_Cl hown hK hP 0 rfl rfl 3 (by decide) (hts _ wd_73) (fun _ h9 => h9) rfl dc_Cl_append_31 ?_
        refine ka_nald (t := fs) hx hb hK hP 2 0 rfl rfl (j := n) (by omega) (by omega) dc_Cl_append_34 ?_
        refine lv_iload_n hx hb dc_Cl_append_35 rfl (lv_at hl 0 rfl) ?_
        refine kn_top (y := pt_lit (b % 8)) (pt_var b hb16) ?_
        refine kr_call1 (va_runSN (As := [.int (pt_lit (b % 8))]) (rest := [.int (nI (fs n))]) ⟨hx, hb, hml, hown, hts⟩ (ct_Pt_only l D cI cZ _ (b % 8) (by omega)) ⟨va_cnB 1 hts (kx_gi wd_416) rfl rfl rfl (nw_414 hN) (hts _ wd_1) yd_Pt_only ⟨Nat.le_of_ble_eq_true rfl, Nat.le_of_ble_eq_true rfl⟩, hts _ wd_415, trivial⟩ (kp_S hP hD hK hN [] rfl rfl) rfl rfl hl.1 rfl (lv_room (Nat.le_of_ble_eq_true rfl)) dc_Cl_append_36 ⟨Nat.le_of_ble_eq_true rfl, Nat.le_of_ble_eq_true rfl⟩) ?_
        refine lv_iload_n hx hb dc_Cl_append_39 rfl (lv_at hl 0 rfl) ?_
        refine lv_ineg hx hb dc_Cl_append_40 ?_
        refine kn_top (y := pt_lit (b % 8 + 8)) (pt_vneg b hb16) ?_
        refine kr_call1 (va_runSN (As := [.int (pt_lit (b % 8 + 8))]) (rest := [.int (nI (2 ^ (b % 8))), .int (nI (fs n))]) ⟨hx, hb, hml, hown, hts⟩ (ct_Pt_only l D cI cZ _ (b % 8 + 8) (by omega)) ⟨va_cnB 1 hts (kx_gi wd_416) rfl rfl rfl (nw_414 hN) (hts _ wd_1) yd_Pt_only ⟨Nat.le_of_ble_eq_true rfl, Nat.le_of_ble_eq_true rfl⟩, hts _ wd_415, trivial⟩ (kp_S hP hD hK hN [] rfl rfl) rfl rfl hl.1 rfl (lv_room (Nat.le_of_ble_eq_true rfl)) dc_Cl_append_41 ⟨Nat.le_of_ble_eq_true rfl, Nat.le_of_ble_eq_true rfl⟩) ?_
        refine kn_ior hx hb dc_Cl_append_44 ?_
        refine kn_iand hx hb dc_Cl_append_45 ?_
        refine kn_if_eq hx hb (Nat.lt_of_le_of_lt Nat.and_le_left (Nat.lt_trans hs16 (by decide))) dc_Cl_append_46 rfl (fun hc46 => ?_) (fun hc46 => ?_)
        · refine lv_aload_n hx hb dc_Cl_append_51 rfl (lv_at hl 1 rfl) ?_
          refine va_get (ci := 2) (v := .ref qd) (C := rn_Cl) (T := fd_Cl) (N := 4) hx hb hts in_Cl hown hK hP 0 rfl rfl 2 (by decide) (hts _ wd_72) (fun _ h9 => h9) rfl dc_Cl_append_52 ?_
          refine lv_aload_n hx hb dc_Cl_append_55 rfl (lv_at hl 1 rfl) ?_
          refine va_get (ci := 2) (v := .int (nI n)) (C := rn_Cl) (T := fd_Cl) (N := 4) hx hb hts in_Cl hown hK hP 0 rfl rfl 3 (by decide) (hts _ wd_73) (fun _ h9 => h9) rfl dc_Cl_append_56 ?_
          refine lv_bipush (v := nI 8) hx hb dc_Cl_append_59 (by decide +kernel) ?_
          refine kn_imul hx hb dc_Cl_append_61 ?_
          refine lv_aload_n hx hb dc_Cl_append_62 rfl (lv_at hl 1 rfl) ?_
          refine va_get (ci := 2) (v := .ref qa) (C := rn_Cl) (T := fd_Cl) (N := 4) hx hb hts in_Cl hown hK hP 0 rfl rfl 0 (by decide) (hts _ wd_63) (fun _ h9 => h9) rfl dc_Cl_append_63 ?_
          refine lv_aload_n hx hb dc_Cl_append_66 rfl (lv_at hl 1 rfl) ?_
          refine va_get (ci := 2) (v := .int (nI n)) (C := rn_Cl) (T := fd_Cl) (N := 4) hx hb hts in_Cl hown hK hP 0 rfl rfl 3 (by decide) (hts _ wd_73) (fun _ h9 => h9) rfl dc_Cl_append_67 ?_
          refine ka_nald (t := fz) hx hb hK hP 1 0 rfl rfl (j := n) (by omega) (by omega) dc_Cl_append_70 ?_
          refine kn_iadd hx hb dc_Cl_append_71 ?_
          refine lv_iload_n hx hb dc_Cl_append_72 rfl (lv_at hl 2 rfl) ?_
          refine ka_iast (f := fl) hx hb hK hP hD hS 3 0 rfl rfl (j := (n * 8) + (fz n)) (by omega) (by omega) dc_Cl_append_73 (ws' := [cl_c o qa qb qd n, ar_n cI qa N fz, ar_n cI qb N fs, ar_i cI qd (N * 8) (upd fl ((n * 8) + (fz n)) (pt_lit b))]) rfl (fun H locs hP hD hS => ?_)
          refine lv_aload_n hx hb dc_Cl_append_74 rfl (lv_at hl 1 rfl) ?_
          refine va_get (ci := 2) (v := .ref qa) (C := rn_Cl) (T := fd_Cl) (N := 4) hx hb hts in_Cl hown hK hP 0 rfl rfl 0 (by decide) (hts _ wd_63) (fun _ h9 => h9) rfl dc_Cl_append_75 ?_
          refine lv_aload_n hx hb dc_Cl_append_78 rfl (lv_at hl 1 rfl) ?_
          refine va_get (ci := 2) (v := .int (nI n)) (C := rn_Cl) (T := fd_Cl) (N := 4) hx hb hts in_Cl hown hK hP 0 rfl rfl 3 (by decide) (hts _ wd_73) (fun _ h9 => h9) rfl dc_Cl_append_79 ?_
          refine lv_dup2_11 hx hb dc_Cl_append_82 rfl rfl ?_
          refine ka_nald (t := fz) hx hb hK hP 1 0 rfl rfl (j := n) (by omega) (by omega) dc_Cl_append_83 ?_
          refine lv_iconst (v := nI 1) hx hb dc_Cl_append_84 (by decide +kernel) ?_
          refine kn_iadd hx hb dc_Cl_append_85 ?_
          refine ka_nast (t := fz) hx hb hK hP hD hS 1 0 rfl rfl (j := n) (by omega) (by omega) dc_Cl_append_86 (ws' := [cl_c o qa qb qd n, ar_n cI qa N (va_up fz n ((fz n) + 1)), ar_n cI qb N fs, ar_i cI qd (N * 8) (upd fl ((n * 8) + (fz n)) (pt_lit b))]) rfl (fun H locs hP hD hS => ?_)
          refine lv_aload_n hx hb dc_Cl_append_87 rfl (lv_at hl 1 rfl) ?_
          refine va_get (ci := 2) (v := .ref qb) (C := rn_Cl) (T := fd_Cl) (N := 4) hx hb hts in_Cl hown hK hP 0 rfl rfl 1 (by decide) (hts _ wd_68) (fun _ h9 => h9) rfl dc_Cl_append_88 ?_
          refine lv_aload_n hx hb dc_Cl_append_91 rfl (lv_at hl 1 rfl) ?_
          refine va_get (ci := 2) (v := .int (nI n)) (C := rn_Cl) (T := fd_Cl) (N := 4) hx hb hts in_Cl hown hK hP 0 rfl rfl 3 (by decide) (hts _ wd_73) (fun _ h9 => h9) rfl dc_Cl_append_92 ?_
          refine lv_dup2_11 hx hb dc_Cl_append_95 rfl rfl ?_
          refine ka_nald (t := fs) hx hb hK hP 2 0 rfl rfl (j := n) (by omega) (by omega) dc_Cl_append_96 ?_
          refine lv_iload_n hx hb dc_Cl_append_97 rfl (lv_at hl 2 rfl) ?_
          refine kr_call1 (va_runSN (As := [.int (pt_lit b)]) (rest := [.int (nI (fs n)), .int (nI n), .ref qb]) ⟨hx, hb, hml, hown, hts⟩ (ct_Pt_only l D cI cZ _ b (hb16)) ⟨va_cnB 1 hts (kx_gi wd_416) rfl rfl rfl (nw_414 hN) (hts _ wd_1) yd_Pt_only ⟨Nat.le_of_ble_eq_true rfl, Nat.le_of_ble_eq_true rfl⟩, hts _ wd_415, trivial⟩ (kp_S hP hD hK hN [] rfl rfl) rfl rfl hl.1 rfl (lv_room (Nat.le_of_ble_eq_true rfl)) dc_Cl_append_98 ⟨Nat.le_of_ble_eq_true rfl, Nat.le_of_ble_eq_true rfl⟩) ?_
          refine kn_ior hx hb dc_Cl_append_101 ?_
          refine ka_nast (t := fs) hx hb hK hP hD hS 2 0 rfl rfl (j := n) (by omega) (by omega) dc_Cl_append_102 (ws' := [cl_c o qa qb qd n, ar_n cI qa N (va_up fz n ((fz n) + 1)), ar_n cI qb N (va_up fs n ((fs n) ||| (2 ^ b))), ar_i cI qd (N * 8) (upd fl ((n * 8) + (fz n)) (pt_lit b))]) rfl (fun H locs hP hD hS => ?_)
          refine lv_iconst (v := nI 1) hx hb dc_Cl_append_103 (by decide +kernel) ?_
          refine kn_top (y := kb_i true) (by decide +kernel) ?_
          exact kw_zret hx hb hr hlocks hP hD hS dc_Cl_append_104 (rfl) (rfl)
        · exact absurd hfr hc46
      · exfalso; omega

set_option maxHeartbeats 4000000 in
set_option maxRecDepth 100000 in
theorem ct_Cl_append_dup (l : Launch) (D : va_G) (cI cZ : ClassId) (sz : Nat) (o : Nat) (qa : Nat) (qb : Nat) (qd : Nat) (N : Nat) (n : Nat) (fz : Nat → Nat) (fs : Nat → Nat) (fl : Nat → Int32) (b : Nat) (hNb : N < 2 ^ 20) (hnN : n < N) (hb16 : b < 16) (hn1 : 1 ≤ n) (hs16 : fs n < 65536) (hfr : ¬ fs n &&& (2 ^ (b % 8) ||| 2 ^ (b % 8 + 8)) = 0) : Met l yn_Cl_append (Cond.code yn_Cl_append bc_Cl_append 3 (some .boolean) :: kx_all) ({ frames := 1, cells := 0, slots := 0, locals := 20 } : Room) (kp [.ref o, .int (pt_lit b)] D cI cZ [cl_c o qa qb qd n, ar_n cI qa N fz, ar_n cI qb N fs, ar_i cI qd (N * 8) fl] sz) (kr_q (some (.int (kb_i false)))) 0 0 (fun _ => False) := by
  refine kx_met (by decide) (Nat.le_of_ble_eq_true rfl) ?_
  intro p e s m below meth c ls hx hb hr hml hts hown hlocks hin hsz hP hK hD hN hl
  have hown : s.vm.findClass rn_Cl = some m.cls := hown
  have hl : lv_has ls 3 [(0, .ref o), (1, .int (pt_lit b))] := hl
  refine lv_iload_n hx hb dc_Cl_append_0 rfl (lv_at hl 1 rfl) ?_
  refine va_mabs hx hb (by rw [hml]; exact hl.1.symm) hown (hts _ wd_413) (hts _ wd_407) (hts _ wd_5) (hts _ wd_408) (Nat.le_of_ble_eq_true rfl) (Nat.le_of_ble_eq_true rfl) (Nat.le_of_ble_eq_true rfl) (Nat.le_of_ble_eq_true rfl) dc_Cl_append_1 ?_
  refine kn_top (y := nI (b % 8 + 1)) (pt_abs b hb16) ?_
  refine lv_istore_n (lv' := [(2, .int (nI (b % 8 + 1))), (0, .ref o), (1, .int (pt_lit b))]) hx hb dc_Cl_append_4 rfl hl (by decide) rfl (fun ls hl => ?_)
  refine lv_aload_n hx hb dc_Cl_append_5 rfl (lv_at hl 1 rfl) ?_
  refine va_get (ci := 2) (v := .int (nI n)) (C := rn_Cl) (T := fd_Cl) (N := 4) hx hb hts in_Cl hown hK hP 0 rfl rfl 3 (by decide) (hts _ wd_73) (fun _ h9 => h9) rfl dc_Cl_append_6 ?_
  refine lv_iconst (v := nI 1) hx hb dc_Cl_append_9 (by decide +kernel) ?_
  refine kn_icmp_lt hx hb (by omega) (by omega) dc_Cl_append_10 rfl (fun hc10 => ?_) (fun hc10 => ?_)
  · exfalso; omega
  · refine lv_iload_n hx hb dc_Cl_append_13 rfl (lv_at hl 0 rfl) ?_
    refine lv_iconst (v := nI 1) hx hb dc_Cl_append_14 (by decide +kernel) ?_
    refine kn_icmp_lt hx hb (by omega) (by omega) dc_Cl_append_15 rfl (fun hc15 => ?_) (fun hc15 => ?_)
    · exfalso; omega
    · refine lv_iload_n hx hb dc_Cl_append_18 rfl (lv_at hl 0 rfl) ?_
      refine lv_bipush (v := nI 8) hx hb dc_Cl_append_19 (by decide +kernel) ?_
      refine kn_icmp_le hx hb (by omega) (by omega) dc_Cl_append_21 rfl (fun hc21 => ?_) (fun hc21 => ?_)
      · refine lv_aload_n hx hb dc_Cl_append_26 rfl (lv_at hl 1 rfl) ?_
        refine va_get (ci := 2) (v := .ref qb) (C := rn_Cl) (T := fd_Cl) (N := 4) hx hb hts in_Cl hown hK hP 0 rfl rfl 1 (by decide) (hts _ wd_68) (fun _ h9 => h9) rfl dc_Cl_append_27 ?_
        refine lv_aload_n hx hb dc_Cl_append_30 rfl (lv_at hl 1 rfl) ?_
        refine va_get (ci := 2) (v := .int (nI n)) (C := rn_Cl) (T := fd_Cl) (N := 4) hx hb hts in_Cl hown hK hP 0 rfl rfl 3 (by decide) (hts _ wd_73) (fun _ h9 => h9) rfl dc_Cl_append_31 ?_
        refine ka_nald (t := fs) hx hb hK hP 2 0 rfl rfl (j := n) (by omega) (by omega) dc_Cl_append_34 ?_
        refine lv_iload_n hx hb dc_Cl_append_35 rfl (lv_at hl 0 rfl) ?_
        refine kn_top (y := pt_lit (b % 8)) (pt_var b hb16) ?_
        refine kr_call1 (va_runSN (As := [.int (pt_lit (b % 8))]) (rest := [.int (nI (fs n))]) ⟨hx, hb, hml, hown, hts⟩ (ct_Pt_only l D cI cZ _ (b % 8) (by omega)) ⟨va_cnB 1 hts (kx_gi wd_416) rfl rfl rfl (nw_414 hN) (hts _ wd_1) yd_Pt_only ⟨Nat.le_of_ble_eq_true rfl, Nat.le_of_ble_eq_true rfl⟩, hts _ wd_415, trivial⟩ (kp_S hP hD hK hN [] rfl rfl) rfl rfl hl.1 rfl (lv_room (Nat.le_of_ble_eq_true rfl)) dc_Cl_append_36 ⟨Nat.le_of_ble_eq_true rfl, Nat.le_of_ble_eq_true rfl⟩) ?_
        refine lv_iload_n hx hb dc_Cl_append_39 rfl (lv_at hl 0 rfl) ?_
        refine lv_ineg hx hb dc_Cl_append_40 ?_
        refine kn_top (y := pt_lit (b % 8 + 8)) (pt_vneg b hb16) ?_
        refine kr_call1 (va_runSN (As := [.int (pt_lit (b % 8 + 8))]) (rest := [.int (nI (2 ^ (b % 8))), .int (nI (fs n))]) ⟨hx, hb, hml, hown, hts⟩ (ct_Pt_only l D cI cZ _ (b % 8 + 8) (by omega)) ⟨va_cnB 1 hts (kx_gi wd_416) rfl rfl rfl (nw_414 hN) (hts _ wd_1) yd_Pt_only ⟨Nat.le_of_ble_eq_true rfl, Nat.le_of_ble_eq_true rfl⟩, hts _ wd_415, trivial⟩ (kp_S hP hD hK hN [] rfl rfl) rfl rfl hl.1 rfl (lv_room (Nat.le_of_ble_eq_true rfl)) dc_Cl_append_41 ⟨Nat.le_of_ble_eq_true rfl, Nat.le_of_ble_eq_true rfl⟩) ?_
        refine kn_ior hx hb dc_Cl_append_44 ?_
        refine kn_iand hx hb dc_Cl_append_45 ?_
        refine kn_if_eq hx hb (Nat.lt_of_le_of_lt Nat.and_le_left (Nat.lt_trans hs16 (by decide))) dc_Cl_append_46 rfl (fun hc46 => ?_) (fun hc46 => ?_)
        · exact absurd hc46 hfr
        · refine lv_iconst (v := nI 0) hx hb dc_Cl_append_49 (by decide +kernel) ?_
          refine kn_top (y := kb_i false) (by decide +kernel) ?_
          exact kr_zret hx hb hr hlocks dc_Cl_append_50 (rfl)
      · exfalso; omega

theorem nx_le {x y : Int32} (h : y < x) (h2 : x ≤ y) : False := by
  rw [Int32.lt_iff_toInt_lt] at h
  rw [Int32.le_iff_toInt_le] at h2
  omega

set_option maxHeartbeats 4000000 in
set_option maxRecDepth 100000 in
theorem ct_Cl_append_no (l : Launch) (D : va_G) (cI cZ : ClassId) (sz : Nat) (o : Nat) (qa : Nat) (qb : Nat) (qd : Nat) (n : Nat) (x : Int32) (hn : n < 2 ^ 31) (hn1 : 1 ≤ n) (hno : pt_no x) : Met l yn_Cl_append (Cond.code yn_Cl_append bc_Cl_append 3 (some .boolean) :: kx_all) ({ frames := 1, cells := 0, slots := 0, locals := 13 } : Room) (kp [.ref o, .int x] D cI cZ [cl_c o qa qb qd n] sz) (kr_q (some (.int (kb_i false)))) 0 0 (fun _ => False) := by
  refine kx_met (by decide) (Nat.le_of_ble_eq_true rfl) ?_
  intro p e s m below meth c ls hx hb hr hml hts hown hlocks hin hsz hP hK hD hN hl
  have hown : s.vm.findClass rn_Cl = some m.cls := hown
  have hl : lv_has ls 3 [(0, .ref o), (1, .int x)] := hl
  refine lv_iload_n hx hb dc_Cl_append_0 rfl (lv_at hl 1 rfl) ?_
  refine va_mabs hx hb (by rw [hml]; exact hl.1.symm) hown (hts _ wd_413) (hts _ wd_407) (hts _ wd_5) (hts _ wd_408) (Nat.le_of_ble_eq_true rfl) (Nat.le_of_ble_eq_true rfl) (Nat.le_of_ble_eq_true rfl) (Nat.le_of_ble_eq_true rfl) dc_Cl_append_1 ?_
  refine lv_istore_n (lv' := [(2, .int (if 0 ≤ x then x else 0 - x)), (0, .ref o), (1, .int x)]) hx hb dc_Cl_append_4 rfl hl (by decide) rfl (fun ls hl => ?_)
  refine lv_aload_n hx hb dc_Cl_append_5 rfl (lv_at hl 1 rfl) ?_
  refine va_get (ci := 2) (v := .int (nI n)) (C := rn_Cl) (T := fd_Cl) (N := 4) hx hb hts in_Cl hown hK hP 0 rfl rfl 3 (by decide) (hts _ wd_73) (fun _ h9 => h9) rfl dc_Cl_append_6 ?_
  refine lv_iconst (v := nI 1) hx hb dc_Cl_append_9 (by decide +kernel) ?_
  refine kn_icmp_lt hx hb (by omega) (by omega) dc_Cl_append_10 rfl (fun hc10 => ?_) (fun hc10 => ?_)
  · exfalso; omega
  · refine lv_iload_n hx hb dc_Cl_append_13 rfl (lv_at hl 0 rfl) ?_
    refine lv_iconst (v := nI 1) hx hb dc_Cl_append_14 (by decide +kernel) ?_
    refine lv_icmp_lt hx hb dc_Cl_append_15 rfl (fun hc15 => ?_) (fun hc15 => ?_)
    · refine lv_iconst (v := nI 0) hx hb dc_Cl_append_24 (by decide +kernel) ?_
      refine kn_top (y := kb_i false) (by decide +kernel) ?_
      exact kr_zret hx hb hr hlocks dc_Cl_append_25 (rfl)
    · refine lv_iload_n hx hb dc_Cl_append_18 rfl (lv_at hl 0 rfl) ?_
      refine lv_bipush (v := nI 8) hx hb dc_Cl_append_19 (by decide +kernel) ?_
      refine lv_icmp_le hx hb dc_Cl_append_21 rfl (fun hc21 => ?_) (fun hc21 => ?_)
      · exact absurd hc21 (fun h8 => hno.elim hc15 (fun h9 => nx_le h9 h8))
      · refine lv_iconst (v := nI 0) hx hb dc_Cl_append_24 (by decide +kernel) ?_
        refine kn_top (y := kb_i false) (by decide +kernel) ?_
        exact kr_zret hx hb hr hlocks dc_Cl_append_25 (rfl)

theorem pt_last_no {P : Nat → Bool} {k : Nat} (hk : 1 ≤ k) (h : P k = false) : pt_last P k = pt_last P (k - 1) := by
  obtain ⟨j, rfl⟩ : ∃ j, k = j + 1 := ⟨k - 1, by omega⟩
  rw [pt_last, if_neg (by rw [h]; decide)]
  rfl
theorem pt_last_yes {P : Nat → Bool} {k : Nat} (hk : 1 ≤ k) (h : P k = true) : pt_last P k = k := by
  obtain ⟨j, rfl⟩ : ∃ j, k = j + 1 := ⟨k - 1, by omega⟩
  rw [pt_last, if_pos h]

set_option maxHeartbeats 4000000 in
set_option maxRecDepth 100000 in
theorem ct_Cl_greatestAlike (l : Launch) (D : va_G) (cI cZ : ClassId) (sz : Nat) (o : Nat) (qa : Nat) (qb : Nat) (qd : Nat) (N : Nat) (n : Nat) (fz : Nat → Nat) (fs : Nat → Nat) (fl : Nat → Int32) (a : Nat) (x : Nat) (hNb : N < 2 ^ 20) (hnN : n < N) (hn62 : n < 62) (ha : a < 2 ^ 62) (h16 : ∀ j, fs j < 65536) (hx : x < 65536) : Met l yn_Cl_greatestAlike (Cond.code yn_Cl_greatestAlike bc_Cl_greatestAlike 5 (some .int) :: kx_all) ({ frames := 1, cells := 0, slots := 0, locals := 22 } : Room) (kp [.ref o, .long (lN a), .int (nI x)] D cI cZ [cl_c o qa qb qd n, ar_n cI qa N fz, ar_n cI qb N fs, ar_i cI qd (N * 8) fl] sz) (kr_q (some (.int (nI (pt_last (fun j => a.testBit j && decide (fs j = x)) n))))) 0 0 (fun _ => False) := by
  refine kx_met (by decide) (Nat.le_of_ble_eq_true rfl) ?_
  intro p e s m below meth c ls hx hb hr hml hts hown hlocks hin hsz hP hK hD hN hl
  have hown : s.vm.findClass rn_Cl = some m.cls := hown
  have hl : lv_has ls 5 [(0, .ref o), (1, .long (lN a)), (3, .int (nI x))] := hl
  refine lv_aload_n hx hb dc_Cl_greatestAlike_0 rfl (lv_at hl 0 rfl) ?_
  refine va_get (ci := 2) (v := .int (nI n)) (C := rn_Cl) (T := fd_Cl) (N := 4) hx hb hts in_Cl hown hK hP 0 rfl rfl 3 (by decide) (hts _ wd_73) (fun _ h9 => h9) rfl dc_Cl_greatestAlike_1 ?_
  refine lv_istore (lv' := [(4, .int (nI n)), (0, .ref o), (1, .long (lN a)), (3, .int (nI x))]) hx hb dc_Cl_greatestAlike_4 hl (by decide) rfl (fun ls hl => ?_)
  have lp_6 : ∀ (K : Nat) (k : Nat) (ls : Array Slot), k < K → lv_has ls 5 [(4, .int (nI k)), (0, .ref o), (1, .long (lN a)), (3, .int (nI x))] → (pt_last (fun j => a.testBit j && decide (fs j = x)) k = pt_last (fun j => a.testBit j && decide (fs j = x)) n) → (k ≤ n) → W p l e ({ frames := 1, cells := 0, slots := 0, locals := 22 } : Room) s m ([.ref o, .long (lN a), .int (nI x)] : List Value).toArray below meth c s.heap [] 0 0 (MQ below (kr_q (some (.int (nI (pt_last (fun j => a.testBit j && decide (fs j = x)) n))))) ([.ref o, .long (lN a), .int (nI x)] : List Value).toArray s 0 0 (fun _ => False)) (F0 m 6 ls []) := by
    intro K
    induction K with
    | zero =>
      intro k ls hk
      exact absurd hk (Nat.not_lt_zero _)
    | succ K ih =>
      intro k ls hk hl h1 h2
      refine lv_iload hx hb dc_Cl_greatestAlike_6 (lv_at hl 0 rfl) ?_
      refine lv_iconst (v := nI 1) hx hb dc_Cl_greatestAlike_8 (by decide +kernel) ?_
      refine kn_icmp_lt hx hb (by omega) (by omega) dc_Cl_greatestAlike_9 rfl (fun hc9 => ?_) (fun hc9 => ?_)
      · refine lv_iconst (v := nI 0) hx hb dc_Cl_greatestAlike_41 (by decide +kernel) ?_
        exact kr_iret hx hb hr hlocks dc_Cl_greatestAlike_42 (by rw [← h1, show k = 0 by omega]; rfl)
      · refine lv_lload_n hx hb dc_Cl_greatestAlike_12 rfl (lv_at hl 2 rfl) ?_
        refine lv_iload hx hb dc_Cl_greatestAlike_13 (lv_at hl 0 rfl) ?_
        refine kr_call1 (va_runSN (As := [.long (lN a), .int (nI k)]) (rest := []) ⟨hx, hb, hml, hown, hts⟩ (ct_Pt_contains l D cI cZ _ a k (ha) (by omega)) ⟨va_cnB 2 hts (kx_gi wd_262) rfl rfl rfl (nw_556 hN) (hts _ wd_1) yd_Pt_contains ⟨Nat.le_of_ble_eq_true rfl, Nat.le_of_ble_eq_true rfl⟩, hts _ wd_261, trivial⟩ (kp_S hP hD hK hN [] rfl rfl) rfl rfl hl.1 rfl (lv_room (Nat.le_of_ble_eq_true rfl)) dc_Cl_greatestAlike_15 ⟨Nat.le_of_ble_eq_true rfl, Nat.le_of_ble_eq_true rfl⟩) ?_
        refine kb_if_eq hx hb dc_Cl_greatestAlike_18 rfl (fun hc18 => ?_) (fun hc18 => ?_)
        · refine lv_iinc (k := 0) (v := nI (k - 1)) (lv' := [(4, .int (nI (k - 1))), (0, .ref o), (1, .long (lN a)), (3, .int (nI x))]) hx hb dc_Cl_greatestAlike_35 hl rfl (kn_dec (by omega)) (by decide) rfl (fun ls hl => ?_)
          refine lv_goto hx hb dc_Cl_greatestAlike_38 rfl ?_
          exact ih _ _ (by omega) hl (by rw [← h1]; exact (pt_last_no (by omega) (by simp [hc18])).symm) (by omega)
        · refine lv_aload_n hx hb dc_Cl_greatestAlike_21 rfl (lv_at hl 1 rfl) ?_
          refine va_get (ci := 2) (v := .ref qb) (C := rn_Cl) (T := fd_Cl) (N := 4) hx hb hts in_Cl hown hK hP 0 rfl rfl 1 (by decide) (hts _ wd_68) (fun _ h9 => h9) rfl dc_Cl_greatestAlike_22 ?_
          refine lv_iload hx hb dc_Cl_greatestAlike_25 (lv_at hl 0 rfl) ?_
          refine ka_nald (t := fs) hx hb hK hP 2 0 rfl rfl (j := k) (by omega) (by omega) dc_Cl_greatestAlike_27 ?_
          refine lv_iload_n hx hb dc_Cl_greatestAlike_28 rfl (lv_at hl 3 rfl) ?_
          refine kn_icmp_ne hx hb (Nat.lt_of_lt_of_le (h16 k) (by decide)) (by omega) dc_Cl_greatestAlike_29 rfl (fun hc29 => ?_) (fun hc29 => ?_)
          · refine lv_iinc (k := 0) (v := nI (k - 1)) (lv' := [(4, .int (nI (k - 1))), (0, .ref o), (1, .long (lN a)), (3, .int (nI x))]) hx hb dc_Cl_greatestAlike_35 hl rfl (kn_dec (by omega)) (by decide) rfl (fun ls hl => ?_)
            refine lv_goto hx hb dc_Cl_greatestAlike_38 rfl ?_
            exact ih _ _ (by omega) hl (by rw [← h1]; exact (pt_last_no (by omega) (by simp [hc29])).symm) (by omega)
          · refine lv_iload hx hb dc_Cl_greatestAlike_32 (lv_at hl 0 rfl) ?_
            exact kr_iret hx hb hr hlocks dc_Cl_greatestAlike_34 (by rw [← h1, pt_last_yes (by omega) (by simp [hc18, hc29])])
  exact lp_6 _ _ _ (Nat.lt_succ_self _) hl (rfl) (by omega)
