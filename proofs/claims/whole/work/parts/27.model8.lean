/-! numbers that a call gives -/
def pt_num (i : Int32) : Nat := i.toNatClampNeg
theorem num_nI {j : Nat} (h : j < 2 ^ 31) : pt_num (nI j) = j := nI_clamp h
theorem num_neg {i : Int32} (h : i < 0) : pt_num i = 0 := by
  have h1 := Int32.lt_iff_toInt_lt.mp h
  have h3 : (0 : Int32).toInt = 0 := rfl
  show i.toInt.toNat = 0
  omega
theorem num_or (i : Int32) : (i < 0 ∧ pt_num i = 0) ∨ ∃ j, j < 2 ^ 31 ∧ i = nI j ∧ pt_num (nI j) = j := by
  by_cases h : i < 0
  · exact Or.inl ⟨h, num_neg h⟩
  · obtain ⟨j, hj, he⟩ := nI_of (x := i) h
    exact Or.inr ⟨j, hj, he, num_nI hj⟩
theorem nI_p {j : Nat} (h : j < 2 ^ 31) : ¬ nI j < 0 := nI_pos h
theorem nI_l0 {j : Nat} (h : j < 2 ^ 31) (q : nI j ≤ 0) : j = 0 := (Nat.eq_zero_or_pos j).elim id (fun z => absurd q (nI_nle z h))
theorem nI_g0 {j : Nat} (q : ¬ nI j ≤ 0) : 1 ≤ j := (Nat.eq_zero_or_pos j).elim (fun z => absurd (by rw [z]; decide +kernel) q) id
theorem b_eq {a b : Bool} (h : a = true ↔ b = true) : a = b := by cases a <;> cases b <;> simp_all

theorem dc_Mo_size_0 : decode bc_Mo_size 0 = .ok (.aload_n 0, 1) := by decide +kernel
theorem dc_Mo_size_1 : decode bc_Mo_size 1 = .ok (.iconst 0, 1) := by decide +kernel
theorem dc_Mo_size_2 : decode bc_Mo_size 2 = .ok (.putfield 65, 3) := by decide +kernel
theorem dc_Mo_size_5 : decode bc_Mo_size 5 = .ok (.aload_n 0, 1) := by decide +kernel
theorem dc_Mo_size_6 : decode bc_Mo_size 6 = .ok (.iload_n 1, 1) := by decide +kernel
theorem dc_Mo_size_7 : decode bc_Mo_size 7 = .ok (.invokevirtual 208, 3) := by decide +kernel
theorem dc_Mo_size_10 : decode bc_Mo_size 10 = .ok (.ifCond .eq (12), 3) := by decide +kernel
theorem dc_Mo_size_13 : decode bc_Mo_size 13 = .ok (.aload_n 0, 1) := by decide +kernel
theorem dc_Mo_size_14 : decode bc_Mo_size 14 = .ok (.getfield 26, 3) := by decide +kernel
theorem dc_Mo_size_17 : decode bc_Mo_size 17 = .ok (.iload_n 1, 1) := by decide +kernel
theorem dc_Mo_size_18 : decode bc_Mo_size 18 = .ok (.iaload, 1) := by decide +kernel
theorem dc_Mo_size_19 : decode bc_Mo_size 19 = .ok (.goto (6), 3) := by decide +kernel
theorem dc_Mo_size_22 : decode bc_Mo_size 22 = .ok (.sipush (-1000), 3) := by decide +kernel
theorem dc_Mo_size_25 : decode bc_Mo_size 25 = .ok (.ireturn, 1) := by decide +kernel
theorem dc_Mo_literal_0 : decode bc_Mo_literal 0 = .ok (.aload_n 0, 1) := by decide +kernel
theorem dc_Mo_literal_1 : decode bc_Mo_literal 1 = .ok (.iconst 0, 1) := by decide +kernel
theorem dc_Mo_literal_2 : decode bc_Mo_literal 2 = .ok (.putfield 65, 3) := by decide +kernel
theorem dc_Mo_literal_5 : decode bc_Mo_literal 5 = .ok (.aload_n 0, 1) := by decide +kernel
theorem dc_Mo_literal_6 : decode bc_Mo_literal 6 = .ok (.iload_n 1, 1) := by decide +kernel
theorem dc_Mo_literal_7 : decode bc_Mo_literal 7 = .ok (.invokevirtual 208, 3) := by decide +kernel
theorem dc_Mo_literal_10 : decode bc_Mo_literal 10 = .ok (.ifCond .eq (31), 3) := by decide +kernel
theorem dc_Mo_literal_13 : decode bc_Mo_literal 13 = .ok (.iload_n 2, 1) := by decide +kernel
theorem dc_Mo_literal_14 : decode bc_Mo_literal 14 = .ok (.ifCond .lt (27), 3) := by decide +kernel
theorem dc_Mo_literal_17 : decode bc_Mo_literal 17 = .ok (.iload_n 2, 1) := by decide +kernel
theorem dc_Mo_literal_18 : decode bc_Mo_literal 18 = .ok (.aload_n 0, 1) := by decide +kernel
theorem dc_Mo_literal_19 : decode bc_Mo_literal 19 = .ok (.getfield 26, 3) := by decide +kernel
theorem dc_Mo_literal_22 : decode bc_Mo_literal 22 = .ok (.iload_n 1, 1) := by decide +kernel
theorem dc_Mo_literal_23 : decode bc_Mo_literal 23 = .ok (.iaload, 1) := by decide +kernel
theorem dc_Mo_literal_24 : decode bc_Mo_literal 24 = .ok (.if_icmp .ge (17), 3) := by decide +kernel
theorem dc_Mo_literal_27 : decode bc_Mo_literal 27 = .ok (.aload_n 0, 1) := by decide +kernel
theorem dc_Mo_literal_28 : decode bc_Mo_literal 28 = .ok (.getfield 29, 3) := by decide +kernel
theorem dc_Mo_literal_31 : decode bc_Mo_literal 31 = .ok (.bipush (8), 2) := by decide +kernel
theorem dc_Mo_literal_33 : decode bc_Mo_literal 33 = .ok (.iload_n 1, 1) := by decide +kernel
theorem dc_Mo_literal_34 : decode bc_Mo_literal 34 = .ok (.imul, 1) := by decide +kernel
theorem dc_Mo_literal_35 : decode bc_Mo_literal 35 = .ok (.iload_n 2, 1) := by decide +kernel
theorem dc_Mo_literal_36 : decode bc_Mo_literal 36 = .ok (.iadd, 1) := by decide +kernel
theorem dc_Mo_literal_37 : decode bc_Mo_literal 37 = .ok (.iaload, 1) := by decide +kernel
theorem dc_Mo_literal_38 : decode bc_Mo_literal 38 = .ok (.goto (4), 3) := by decide +kernel
theorem dc_Mo_literal_41 : decode bc_Mo_literal 41 = .ok (.iconst 0, 1) := by decide +kernel
theorem dc_Mo_literal_42 : decode bc_Mo_literal 42 = .ok (.ireturn, 1) := by decide +kernel
theorem dc_Mo_step_0 : decode bc_Mo_step 0 = .ok (.aload_n 0, 1) := by decide +kernel
theorem dc_Mo_step_1 : decode bc_Mo_step 1 = .ok (.iconst 0, 1) := by decide +kernel
theorem dc_Mo_step_2 : decode bc_Mo_step 2 = .ok (.putfield 65, 3) := by decide +kernel
theorem dc_Mo_step_5 : decode bc_Mo_step 5 = .ok (.iload_n 1, 1) := by decide +kernel
theorem dc_Mo_step_6 : decode bc_Mo_step 6 = .ok (.ifCond .le (20), 3) := by decide +kernel
theorem dc_Mo_step_9 : decode bc_Mo_step 9 = .ok (.iload_n 1, 1) := by decide +kernel
theorem dc_Mo_step_10 : decode bc_Mo_step 10 = .ok (.aload_n 0, 1) := by decide +kernel
theorem dc_Mo_step_11 : decode bc_Mo_step 11 = .ok (.getfield 143, 3) := by decide +kernel
theorem dc_Mo_step_14 : decode bc_Mo_step 14 = .ok (.if_icmp .gt (12), 3) := by decide +kernel
theorem dc_Mo_step_17 : decode bc_Mo_step 17 = .ok (.aload_n 0, 1) := by decide +kernel
theorem dc_Mo_step_18 : decode bc_Mo_step 18 = .ok (.getfield 41, 3) := by decide +kernel
theorem dc_Mo_step_21 : decode bc_Mo_step 21 = .ok (.iload_n 1, 1) := by decide +kernel
theorem dc_Mo_step_22 : decode bc_Mo_step 22 = .ok (.iaload, 1) := by decide +kernel
theorem dc_Mo_step_23 : decode bc_Mo_step 23 = .ok (.goto (6), 3) := by decide +kernel
theorem dc_Mo_step_26 : decode bc_Mo_step 26 = .ok (.sipush (-1000), 3) := by decide +kernel
theorem dc_Mo_step_29 : decode bc_Mo_step 29 = .ok (.ireturn, 1) := by decide +kernel
theorem dc_Mo_marked_0 : decode bc_Mo_marked 0 = .ok (.aload_n 0, 1) := by decide +kernel
theorem dc_Mo_marked_1 : decode bc_Mo_marked 1 = .ok (.iconst 0, 1) := by decide +kernel
theorem dc_Mo_marked_2 : decode bc_Mo_marked 2 = .ok (.putfield 65, 3) := by decide +kernel
theorem dc_Mo_marked_5 : decode bc_Mo_marked 5 = .ok (.aload_n 0, 1) := by decide +kernel
theorem dc_Mo_marked_6 : decode bc_Mo_marked 6 = .ok (.getfield 140, 3) := by decide +kernel
theorem dc_Mo_marked_9 : decode bc_Mo_marked 9 = .ok (.ifCond .eq (24), 3) := by decide +kernel
theorem dc_Mo_marked_12 : decode bc_Mo_marked 12 = .ok (.aload_n 0, 1) := by decide +kernel
theorem dc_Mo_marked_13 : decode bc_Mo_marked 13 = .ok (.iload_n 1, 1) := by decide +kernel
theorem dc_Mo_marked_14 : decode bc_Mo_marked 14 = .ok (.invokevirtual 208, 3) := by decide +kernel
theorem dc_Mo_marked_17 : decode bc_Mo_marked 17 = .ok (.ifCond .eq (16), 3) := by decide +kernel
theorem dc_Mo_marked_20 : decode bc_Mo_marked 20 = .ok (.aload_n 0, 1) := by decide +kernel
theorem dc_Mo_marked_21 : decode bc_Mo_marked 21 = .ok (.getfield 35, 3) := by decide +kernel
theorem dc_Mo_marked_24 : decode bc_Mo_marked 24 = .ok (.iload_n 1, 1) := by decide +kernel
theorem dc_Mo_marked_25 : decode bc_Mo_marked 25 = .ok (.baload, 1) := by decide +kernel
theorem dc_Mo_marked_26 : decode bc_Mo_marked 26 = .ok (.ifCond .eq (7), 3) := by decide +kernel
theorem dc_Mo_marked_29 : decode bc_Mo_marked 29 = .ok (.iconst 1, 1) := by decide +kernel
theorem dc_Mo_marked_30 : decode bc_Mo_marked 30 = .ok (.goto (4), 3) := by decide +kernel
theorem dc_Mo_marked_33 : decode bc_Mo_marked 33 = .ok (.iconst 0, 1) := by decide +kernel
theorem dc_Mo_marked_34 : decode bc_Mo_marked 34 = .ok (.ireturn, 1) := by decide +kernel
theorem dc_Mo_hints_0 : decode bc_Mo_hints 0 = .ok (.aload_n 0, 1) := by decide +kernel
theorem dc_Mo_hints_1 : decode bc_Mo_hints 1 = .ok (.iconst 0, 1) := by decide +kernel
theorem dc_Mo_hints_2 : decode bc_Mo_hints 2 = .ok (.putfield 65, 3) := by decide +kernel
theorem dc_Mo_hints_5 : decode bc_Mo_hints 5 = .ok (.aload_n 0, 1) := by decide +kernel
theorem dc_Mo_hints_6 : decode bc_Mo_hints 6 = .ok (.getfield 140, 3) := by decide +kernel
theorem dc_Mo_hints_9 : decode bc_Mo_hints 9 = .ok (.ifCond .eq (20), 3) := by decide +kernel
theorem dc_Mo_hints_12 : decode bc_Mo_hints 12 = .ok (.aload_n 0, 1) := by decide +kernel
theorem dc_Mo_hints_13 : decode bc_Mo_hints 13 = .ok (.iload_n 1, 1) := by decide +kernel
theorem dc_Mo_hints_14 : decode bc_Mo_hints 14 = .ok (.invokevirtual 208, 3) := by decide +kernel
theorem dc_Mo_hints_17 : decode bc_Mo_hints 17 = .ok (.ifCond .eq (12), 3) := by decide +kernel
theorem dc_Mo_hints_20 : decode bc_Mo_hints 20 = .ok (.aload_n 0, 1) := by decide +kernel
theorem dc_Mo_hints_21 : decode bc_Mo_hints 21 = .ok (.getfield 44, 3) := by decide +kernel
theorem dc_Mo_hints_24 : decode bc_Mo_hints 24 = .ok (.iload_n 1, 1) := by decide +kernel
theorem dc_Mo_hints_25 : decode bc_Mo_hints 25 = .ok (.iaload, 1) := by decide +kernel
theorem dc_Mo_hints_26 : decode bc_Mo_hints 26 = .ok (.goto (4), 3) := by decide +kernel
theorem dc_Mo_hints_29 : decode bc_Mo_hints 29 = .ok (.iconst 0, 1) := by decide +kernel
theorem dc_Mo_hints_30 : decode bc_Mo_hints 30 = .ok (.ireturn, 1) := by decide +kernel
theorem dc_Mo_isHint_0 : decode bc_Mo_isHint 0 = .ok (.aload_n 0, 1) := by decide +kernel
theorem dc_Mo_isHint_1 : decode bc_Mo_isHint 1 = .ok (.getfield 140, 3) := by decide +kernel
theorem dc_Mo_isHint_4 : decode bc_Mo_isHint 4 = .ok (.ifCond .eq (29), 3) := by decide +kernel
theorem dc_Mo_isHint_7 : decode bc_Mo_isHint 7 = .ok (.aload_n 0, 1) := by decide +kernel
theorem dc_Mo_isHint_8 : decode bc_Mo_isHint 8 = .ok (.iload_n 1, 1) := by decide +kernel
theorem dc_Mo_isHint_9 : decode bc_Mo_isHint 9 = .ok (.invokevirtual 208, 3) := by decide +kernel
theorem dc_Mo_isHint_12 : decode bc_Mo_isHint 12 = .ok (.ifCond .eq (21), 3) := by decide +kernel
theorem dc_Mo_isHint_15 : decode bc_Mo_isHint 15 = .ok (.iload_n 2, 1) := by decide +kernel
theorem dc_Mo_isHint_16 : decode bc_Mo_isHint 16 = .ok (.ifCond .lt (17), 3) := by decide +kernel
theorem dc_Mo_isHint_19 : decode bc_Mo_isHint 19 = .ok (.iload_n 2, 1) := by decide +kernel
theorem dc_Mo_isHint_20 : decode bc_Mo_isHint 20 = .ok (.aload_n 0, 1) := by decide +kernel
theorem dc_Mo_isHint_21 : decode bc_Mo_isHint 21 = .ok (.getfield 44, 3) := by decide +kernel
theorem dc_Mo_isHint_24 : decode bc_Mo_isHint 24 = .ok (.iload_n 1, 1) := by decide +kernel
theorem dc_Mo_isHint_25 : decode bc_Mo_isHint 25 = .ok (.iaload, 1) := by decide +kernel
theorem dc_Mo_isHint_26 : decode bc_Mo_isHint 26 = .ok (.if_icmp .ge (7), 3) := by decide +kernel
theorem dc_Mo_isHint_29 : decode bc_Mo_isHint 29 = .ok (.iconst 1, 1) := by decide +kernel
theorem dc_Mo_isHint_30 : decode bc_Mo_isHint 30 = .ok (.goto (4), 3) := by decide +kernel
theorem dc_Mo_isHint_33 : decode bc_Mo_isHint 33 = .ok (.iconst 0, 1) := by decide +kernel
theorem dc_Mo_isHint_34 : decode bc_Mo_isHint 34 = .ok (.ireturn, 1) := by decide +kernel
theorem dc_Mo_hint_0 : decode bc_Mo_hint 0 = .ok (.aload_n 0, 1) := by decide +kernel
theorem dc_Mo_hint_1 : decode bc_Mo_hint 1 = .ok (.iconst 0, 1) := by decide +kernel
theorem dc_Mo_hint_2 : decode bc_Mo_hint 2 = .ok (.putfield 65, 3) := by decide +kernel
theorem dc_Mo_hint_5 : decode bc_Mo_hint 5 = .ok (.aload_n 0, 1) := by decide +kernel
theorem dc_Mo_hint_6 : decode bc_Mo_hint 6 = .ok (.iload_n 1, 1) := by decide +kernel
theorem dc_Mo_hint_7 : decode bc_Mo_hint 7 = .ok (.iload_n 2, 1) := by decide +kernel
theorem dc_Mo_hint_8 : decode bc_Mo_hint 8 = .ok (.invokevirtual 211, 3) := by decide +kernel
theorem dc_Mo_hint_11 : decode bc_Mo_hint 11 = .ok (.ifCond .eq (25), 3) := by decide +kernel
theorem dc_Mo_hint_14 : decode bc_Mo_hint 14 = .ok (.aload_n 0, 1) := by decide +kernel
theorem dc_Mo_hint_15 : decode bc_Mo_hint 15 = .ok (.getfield 47, 3) := by decide +kernel
theorem dc_Mo_hint_18 : decode bc_Mo_hint 18 = .ok (.sipush (400), 3) := by decide +kernel
theorem dc_Mo_hint_21 : decode bc_Mo_hint 21 = .ok (.iload_n 1, 1) := by decide +kernel
theorem dc_Mo_hint_22 : decode bc_Mo_hint 22 = .ok (.aload_n 0, 1) := by decide +kernel
theorem dc_Mo_hint_23 : decode bc_Mo_hint 23 = .ok (.getfield 150, 3) := by decide +kernel
theorem dc_Mo_hint_26 : decode bc_Mo_hint 26 = .ok (.isub, 1) := by decide +kernel
theorem dc_Mo_hint_27 : decode bc_Mo_hint 27 = .ok (.iconst 1, 1) := by decide +kernel
theorem dc_Mo_hint_28 : decode bc_Mo_hint 28 = .ok (.isub, 1) := by decide +kernel
theorem dc_Mo_hint_29 : decode bc_Mo_hint 29 = .ok (.imul, 1) := by decide +kernel
theorem dc_Mo_hint_30 : decode bc_Mo_hint 30 = .ok (.iload_n 2, 1) := by decide +kernel
theorem dc_Mo_hint_31 : decode bc_Mo_hint 31 = .ok (.iadd, 1) := by decide +kernel
theorem dc_Mo_hint_32 : decode bc_Mo_hint 32 = .ok (.iaload, 1) := by decide +kernel
theorem dc_Mo_hint_33 : decode bc_Mo_hint 33 = .ok (.goto (4), 3) := by decide +kernel
theorem dc_Mo_hint_36 : decode bc_Mo_hint 36 = .ok (.iconst 0, 1) := by decide +kernel
theorem dc_Mo_hint_37 : decode bc_Mo_hint 37 = .ok (.ireturn, 1) := by decide +kernel
theorem dc_Mo_poke_0 : decode bc_Mo_poke 0 = .ok (.aload_n 0, 1) := by decide +kernel
theorem dc_Mo_poke_1 : decode bc_Mo_poke 1 = .ok (.iconst 0, 1) := by decide +kernel
theorem dc_Mo_poke_2 : decode bc_Mo_poke 2 = .ok (.putfield 65, 3) := by decide +kernel
theorem dc_Mo_poke_5 : decode bc_Mo_poke 5 = .ok (.aload_n 0, 1) := by decide +kernel
theorem dc_Mo_poke_6 : decode bc_Mo_poke 6 = .ok (.iload_n 1, 1) := by decide +kernel
theorem dc_Mo_poke_7 : decode bc_Mo_poke 7 = .ok (.iload_n 2, 1) := by decide +kernel
theorem dc_Mo_poke_8 : decode bc_Mo_poke 8 = .ok (.invokevirtual 211, 3) := by decide +kernel
theorem dc_Mo_poke_11 : decode bc_Mo_poke 11 = .ok (.ifCond .eq (25), 3) := by decide +kernel
theorem dc_Mo_poke_14 : decode bc_Mo_poke 14 = .ok (.aload_n 0, 1) := by decide +kernel
theorem dc_Mo_poke_15 : decode bc_Mo_poke 15 = .ok (.getfield 47, 3) := by decide +kernel
theorem dc_Mo_poke_18 : decode bc_Mo_poke 18 = .ok (.sipush (400), 3) := by decide +kernel
theorem dc_Mo_poke_21 : decode bc_Mo_poke 21 = .ok (.iload_n 1, 1) := by decide +kernel
theorem dc_Mo_poke_22 : decode bc_Mo_poke 22 = .ok (.aload_n 0, 1) := by decide +kernel
theorem dc_Mo_poke_23 : decode bc_Mo_poke 23 = .ok (.getfield 150, 3) := by decide +kernel
theorem dc_Mo_poke_26 : decode bc_Mo_poke 26 = .ok (.isub, 1) := by decide +kernel
theorem dc_Mo_poke_27 : decode bc_Mo_poke 27 = .ok (.iconst 1, 1) := by decide +kernel
theorem dc_Mo_poke_28 : decode bc_Mo_poke 28 = .ok (.isub, 1) := by decide +kernel
theorem dc_Mo_poke_29 : decode bc_Mo_poke 29 = .ok (.imul, 1) := by decide +kernel
theorem dc_Mo_poke_30 : decode bc_Mo_poke 30 = .ok (.iload_n 2, 1) := by decide +kernel
theorem dc_Mo_poke_31 : decode bc_Mo_poke 31 = .ok (.iadd, 1) := by decide +kernel
theorem dc_Mo_poke_32 : decode bc_Mo_poke 32 = .ok (.iload_n 3, 1) := by decide +kernel
theorem dc_Mo_poke_33 : decode bc_Mo_poke 33 = .ok (.iastore, 1) := by decide +kernel
theorem dc_Mo_poke_34 : decode bc_Mo_poke 34 = .ok (.iconst 1, 1) := by decide +kernel
theorem dc_Mo_poke_35 : decode bc_Mo_poke 35 = .ok (.ireturn, 1) := by decide +kernel
theorem dc_Mo_poke_36 : decode bc_Mo_poke 36 = .ok (.iconst 0, 1) := by decide +kernel
theorem dc_Mo_poke_37 : decode bc_Mo_poke 37 = .ok (.ireturn, 1) := by decide +kernel
theorem dc_Mo_written_0 : decode bc_Mo_written 0 = .ok (.aload_n 0, 1) := by decide +kernel
theorem dc_Mo_written_1 : decode bc_Mo_written 1 = .ok (.iconst 0, 1) := by decide +kernel
theorem dc_Mo_written_2 : decode bc_Mo_written 2 = .ok (.putfield 65, 3) := by decide +kernel
theorem dc_Mo_written_5 : decode bc_Mo_written 5 = .ok (.iload_n 1, 1) := by decide +kernel
theorem dc_Mo_written_6 : decode bc_Mo_written 6 = .ok (.ifCond .lt (20), 3) := by decide +kernel
theorem dc_Mo_written_9 : decode bc_Mo_written 9 = .ok (.iload_n 1, 1) := by decide +kernel
theorem dc_Mo_written_10 : decode bc_Mo_written 10 = .ok (.aload_n 0, 1) := by decide +kernel
theorem dc_Mo_written_11 : decode bc_Mo_written 11 = .ok (.getfield 227, 3) := by decide +kernel
theorem dc_Mo_written_14 : decode bc_Mo_written 14 = .ok (.if_icmp .ge (12), 3) := by decide +kernel
theorem dc_Mo_written_17 : decode bc_Mo_written 17 = .ok (.aload_n 0, 1) := by decide +kernel
theorem dc_Mo_written_18 : decode bc_Mo_written 18 = .ok (.getfield 62, 3) := by decide +kernel
theorem dc_Mo_written_21 : decode bc_Mo_written 21 = .ok (.iload_n 1, 1) := by decide +kernel
theorem dc_Mo_written_22 : decode bc_Mo_written 22 = .ok (.iaload, 1) := by decide +kernel
theorem dc_Mo_written_23 : decode bc_Mo_written 23 = .ok (.goto (6), 3) := by decide +kernel
theorem dc_Mo_written_26 : decode bc_Mo_written 26 = .ok (.sipush (-1000), 3) := by decide +kernel
theorem dc_Mo_written_29 : decode bc_Mo_written 29 = .ok (.ireturn, 1) := by decide +kernel
set_option maxHeartbeats 4000000 in
set_option maxRecDepth 100000 in
theorem ct_Mo_isClause_any (l : Launch) (D : va_G) (cI cZ : ClassId) (sz : Nat) (o : Nat) (mth : Nat) (mty : Nat) (x0 : Nat) (mat : Nat) (mfr : Nat) (mto : Nat) (mgd : Bool) (mrd : Nat) (x1 : Nat) (x2 : Nat) (x3 : Nat) (mhf : Bool) (mhp : Bool) (mcl : Bool) (mck : Bool) (mba : Nat) (mct : Nat) (x4 : Nat) (x5 : Nat) (x6 : Nat) (x7 : Nat) (x8 : Nat) (mst : Nat) (x9 : Nat) (x10 : Nat) (x11 : Nat) (x12 : Nat) (mtr : Nat) (mrs : Nat) (x13 : Nat) (x14 : Nat) (x15 : Nat) (x16 : Nat) (mwr : Nat) (x17 : Nat) (mfo : Nat) (x : Int32) (hct : mct < 2 ^ 31) : Met l yn_Mo_isClause (Cond.code yn_Mo_isClause bc_Mo_isClause 2 (some .boolean) :: kx_all) ({ frames := 0, cells := 0, slots := 0, locals := 0 } : Room) (kp [.ref o, .int x] D cI cZ [mo_c o mth mty x0 mat mfr mto mgd mrd x1 x2 x3 mhf mhp mcl mck mba mct x4 x5 x6 x7 x8 mst x9 x10 x11 x12 mtr mrs x13 x14 x15 x16 mwr x17 mfo] sz) (kr_q (some (.int (kb_i (decide (1 ≤ pt_num x ∧ pt_num x ≤ mct)))))) 0 0 (fun _ => False) := by
  refine kx_met (by decide) (Nat.le_of_ble_eq_true rfl) ?_
  intro p e s m below meth c ls hx hb hr hml hts hown hlocks hin hsz hP hK hD hN hl
  have hown : s.vm.findClass rn_Mo = some m.cls := hown
  have hl : lv_has ls 2 [(0, .ref o), (1, .int x)] := hl
  rcases num_or x with ⟨hix, hzx⟩ | ⟨jx, hjx, rfl, hzx⟩
  · refine lv_iload_n hx hb dc_Mo_isClause_0 rfl (lv_at hl 1 rfl) ?_
    refine lv_if_le hx hb dc_Mo_isClause_1 rfl (fun hc1 => ?_) (fun hc1 => ?_)
    · refine lv_iconst (v := nI 0) hx hb dc_Mo_isClause_16 (by decide +kernel) ?_
      refine kn_top (y := kb_i false) (by decide +kernel) ?_
      exact kr_zret hx hb hr hlocks dc_Mo_isClause_17 (by rw [hzx]; rfl)
    · exact absurd (le_of_l hix) hc1
  · refine lv_iload_n hx hb dc_Mo_isClause_0 rfl (lv_at hl 1 rfl) ?_
    refine lv_if_le hx hb dc_Mo_isClause_1 rfl (fun hc1 => ?_) (fun hc1 => ?_)
    · refine lv_iconst (v := nI 0) hx hb dc_Mo_isClause_16 (by decide +kernel) ?_
      refine kn_top (y := kb_i false) (by decide +kernel) ?_
      exact kr_zret hx hb hr hlocks dc_Mo_isClause_17 ((decide_eq_false (fun q => by rw [hzx] at q; have := nI_l0 hjx hc1; omega)).symm)
    · refine lv_iload_n hx hb dc_Mo_isClause_4 rfl (lv_at hl 1 rfl) ?_
      refine lv_aload_n hx hb dc_Mo_isClause_5 rfl (lv_at hl 0 rfl) ?_
      refine va_get (ci := 10) (v := .int (nI mct)) (C := rn_Mo) (T := fd_Mo) (N := 36) hx hb hts in_Mo hown hK hP 0 rfl rfl 16 (by decide) (hts _ wd_762) (fun _ h9 => h9) rfl dc_Mo_isClause_6 ?_
      refine kn_icmp_gt hx hb (by omega) (by omega) dc_Mo_isClause_9 rfl (fun hc9 => ?_) (fun hc9 => ?_)
      · refine lv_iconst (v := nI 0) hx hb dc_Mo_isClause_16 (by decide +kernel) ?_
        refine kn_top (y := kb_i false) (by decide +kernel) ?_
        exact kr_zret hx hb hr hlocks dc_Mo_isClause_17 ((decide_eq_false (fun q => by rw [hzx] at q; omega)).symm)
      · refine lv_iconst (v := nI 1) hx hb dc_Mo_isClause_12 (by decide +kernel) ?_
        refine lv_goto hx hb dc_Mo_isClause_13 rfl ?_
        refine kn_top (y := kb_i true) (by decide +kernel) ?_
        exact kr_zret hx hb hr hlocks dc_Mo_isClause_17 ((decide_eq_true (by rw [hzx]; have := nI_g0 hc1; exact ⟨by omega, by omega⟩)).symm)

set_option maxHeartbeats 4000000 in
set_option maxRecDepth 100000 in
theorem ct_Mo_size (l : Launch) (D : va_G) (cI cZ : ClassId) (sz : Nat) (o : Nat) (mth : Nat) (mty : Nat) (x0 : Nat) (mat : Nat) (mfr : Nat) (mto : Nat) (mgd : Bool) (mrd : Nat) (x1 : Nat) (x2 : Nat) (x3 : Nat) (mhf : Bool) (mhp : Bool) (mcl : Bool) (mck : Bool) (mba : Nat) (mct : Nat) (x4 : Nat) (x5 : Nat) (x6 : Nat) (x7 : Nat) (x8 : Nat) (mst : Nat) (x9 : Nat) (x10 : Nat) (x11 : Nat) (x12 : Nat) (mtr : Nat) (mrs : Nat) (x13 : Nat) (x14 : Nat) (x15 : Nat) (x16 : Nat) (mwr : Nat) (x17 : Nat) (mfo : Nat) (fz : Nat → Nat) (x : Int32) (hct : mct ≤ 32) : Met l yn_Mo_size (Cond.code yn_Mo_size bc_Mo_size 2 (some .int) :: kx_all) ({ frames := 1, cells := 0, slots := 0, locals := 21 } : Room) (kp [.ref o, .int x] D cI cZ [mo_c o mth mty x0 mat mfr mto mgd mrd x1 x2 x3 mhf mhp mcl mck mba mct x4 x5 x6 x7 x8 mst x9 x10 x11 x12 mtr mrs x13 x14 x15 x16 mwr x17 mfo, ar_n cI x5 33 fz] sz) (kw_q (some (.int (if 1 ≤ pt_num x ∧ pt_num x ≤ mct then nI (fz (pt_num x)) else (-1000)))) D kc_l [mo_c o 0 mty x0 mat mfr mto mgd mrd x1 x2 x3 mhf mhp mcl mck mba mct x4 x5 x6 x7 x8 mst x9 x10 x11 x12 mtr mrs x13 x14 x15 x16 mwr x17 mfo, ar_n cI x5 33 fz] (va_A [mo_c o mth mty x0 mat mfr mto mgd mrd x1 x2 x3 mhf mhp mcl mck mba mct x4 x5 x6 x7 x8 mst x9 x10 x11 x12 mtr mrs x13 x14 x15 x16 mwr x17 mfo, ar_n cI x5 33 fz] sz)) 0 0 (va_A [mo_c o mth mty x0 mat mfr mto mgd mrd x1 x2 x3 mhf mhp mcl mck mba mct x4 x5 x6 x7 x8 mst x9 x10 x11 x12 mtr mrs x13 x14 x15 x16 mwr x17 mfo, ar_n cI x5 33 fz] sz) := by
  refine kx_metW (by decide) (Nat.le_of_ble_eq_true rfl) ?_
  intro p e s m below meth c ls A hx hb hr hml hts hown hlocks hin hA hP hK hD hN hl hS
  have hown : s.vm.findClass rn_Mo = some m.cls := hown
  have hl : lv_has ls 2 [(0, .ref o), (1, .int x)] := hl
  rcases num_or x with ⟨hix, hzx⟩ | ⟨jx, hjx, rfl, hzx⟩
  · refine lv_aload_n hx hb dc_Mo_size_0 rfl (lv_at hl 0 rfl) ?_
    refine lv_iconst (v := nI 0) hx hb dc_Mo_size_1 (by decide +kernel) ?_
    refine va_put (ci := 10) (v := .int (nI 0)) (ty := .int) (C := rn_Mo) (T := fd_Mo) (N := 36) hx hb hts in_Mo ty_Mo tk_Mo nm_Mo hown hK hP hD hS 0 rfl rfl 0 (by decide) (hts _ wd_746) (fun _ h9 => h9) rfl (by decide +kernel) rfl rfl (Nat.le_of_ble_eq_true rfl) dc_Mo_size_2 (fun H locs hP hD hS => ?_)
    have hP : va_P D kc_l [mo_c o 0 mty x0 mat mfr mto mgd mrd x1 x2 x3 mhf mhp mcl mck mba mct x4 x5 x6 x7 x8 mst x9 x10 x11 x12 mtr mrs x13 x14 x15 x16 mwr x17 mfo, ar_n cI x5 33 fz] H := hP
    have hD : va_D A [mo_c o 0 mty x0 mat mfr mto mgd mrd x1 x2 x3 mhf mhp mcl mck mba mct x4 x5 x6 x7 x8 mst x9 x10 x11 x12 mtr mrs x13 x14 x15 x16 mwr x17 mfo, ar_n cI x5 33 fz] := hD
    refine lv_aload_n hx hb dc_Mo_size_5 rfl (lv_at hl 0 rfl) ?_
    refine lv_iload_n hx hb dc_Mo_size_6 rfl (lv_at hl 1 rfl) ?_
    refine kr_call1 (va_runV (As := [.int x]) (rest := []) ⟨hx, hb, hml, hown, hts⟩ (ct_Mo_isClause_any l D cI cZ _ o 0 mty x0 mat mfr mto mgd mrd x1 x2 x3 mhf mhp mcl mck mba mct x4 x5 x6 x7 x8 mst x9 x10 x11 x12 mtr mrs x13 x14 x15 x16 mwr x17 mfo x (by omega)) (cwV 1 hts (kx_gV wd_992 wd_994 (kx_sel (q := (yn_Mo_isClause, 36)) (List.mem_append_right _ (List.mem_append_right _ (List.mem_of_getElem? (i := 3) rfl)))) wd_9 wd_995) rfl rfl rfl ⟨rfl, yd_Mo_isClause⟩ ⟨Nat.le_of_ble_eq_true rfl, Nat.le_of_ble_eq_true rfl⟩) (kp_V (q0 := 0) (ci := 10) hP hD hK hN [0] rfl rfl rfl rfl rfl) rfl rfl hl.1 rfl (lv_room (Nat.le_of_ble_eq_true rfl)) dc_Mo_size_7 ⟨Nat.le_of_ble_eq_true rfl, Nat.le_of_ble_eq_true rfl⟩) ?_
    refine kb_if_eq hx hb dc_Mo_size_10 rfl (fun hc10 => ?_) (fun hc10 => ?_)
    · refine lv_sipush (v := (-1000)) hx hb dc_Mo_size_22 (by decide +kernel) ?_
      exact kw_iret hx hb hr hlocks hP hD hS dc_Mo_size_25 (by rw [hzx, if_neg (by omega)]) (rfl)
    · exact absurd hc10 (by rw [hzx]; simp)
  · refine lv_aload_n hx hb dc_Mo_size_0 rfl (lv_at hl 0 rfl) ?_
    refine lv_iconst (v := nI 0) hx hb dc_Mo_size_1 (by decide +kernel) ?_
    refine va_put (ci := 10) (v := .int (nI 0)) (ty := .int) (C := rn_Mo) (T := fd_Mo) (N := 36) hx hb hts in_Mo ty_Mo tk_Mo nm_Mo hown hK hP hD hS 0 rfl rfl 0 (by decide) (hts _ wd_746) (fun _ h9 => h9) rfl (by decide +kernel) rfl rfl (Nat.le_of_ble_eq_true rfl) dc_Mo_size_2 (fun H locs hP hD hS => ?_)
    have hP : va_P D kc_l [mo_c o 0 mty x0 mat mfr mto mgd mrd x1 x2 x3 mhf mhp mcl mck mba mct x4 x5 x6 x7 x8 mst x9 x10 x11 x12 mtr mrs x13 x14 x15 x16 mwr x17 mfo, ar_n cI x5 33 fz] H := hP
    have hD : va_D A [mo_c o 0 mty x0 mat mfr mto mgd mrd x1 x2 x3 mhf mhp mcl mck mba mct x4 x5 x6 x7 x8 mst x9 x10 x11 x12 mtr mrs x13 x14 x15 x16 mwr x17 mfo, ar_n cI x5 33 fz] := hD
    refine lv_aload_n hx hb dc_Mo_size_5 rfl (lv_at hl 0 rfl) ?_
    refine lv_iload_n hx hb dc_Mo_size_6 rfl (lv_at hl 1 rfl) ?_
    refine kr_call1 (va_runV (As := [.int (nI jx)]) (rest := []) ⟨hx, hb, hml, hown, hts⟩ (ct_Mo_isClause_any l D cI cZ _ o 0 mty x0 mat mfr mto mgd mrd x1 x2 x3 mhf mhp mcl mck mba mct x4 x5 x6 x7 x8 mst x9 x10 x11 x12 mtr mrs x13 x14 x15 x16 mwr x17 mfo (nI jx) (by omega)) (cwV 1 hts (kx_gV wd_992 wd_994 (kx_sel (q := (yn_Mo_isClause, 36)) (List.mem_append_right _ (List.mem_append_right _ (List.mem_of_getElem? (i := 3) rfl)))) wd_9 wd_995) rfl rfl rfl ⟨rfl, yd_Mo_isClause⟩ ⟨Nat.le_of_ble_eq_true rfl, Nat.le_of_ble_eq_true rfl⟩) (kp_V (q0 := 0) (ci := 10) hP hD hK hN [0] rfl rfl rfl rfl rfl) rfl rfl hl.1 rfl (lv_room (Nat.le_of_ble_eq_true rfl)) dc_Mo_size_7 ⟨Nat.le_of_ble_eq_true rfl, Nat.le_of_ble_eq_true rfl⟩) ?_
    refine kb_if_eq hx hb dc_Mo_size_10 rfl (fun hc10 => ?_) (fun hc10 => ?_)
    · have hx9 := of_decide_eq_false hc10
      refine lv_sipush (v := (-1000)) hx hb dc_Mo_size_22 (by decide +kernel) ?_
      exact kw_iret hx hb hr hlocks hP hD hS dc_Mo_size_25 (by rw [if_neg hx9]) (rfl)
    · have hx9 := of_decide_eq_true hc10
      rw [hzx] at hx9
      refine lv_aload_n hx hb dc_Mo_size_13 rfl (lv_at hl 0 rfl) ?_
      refine va_get (ci := 10) (v := .ref x5) (C := rn_Mo) (T := fd_Mo) (N := 36) hx hb hts in_Mo hown hK hP 0 rfl rfl 18 (by decide) (hts _ wd_764) (fun _ h9 => h9) rfl dc_Mo_size_14 ?_
      refine lv_iload_n hx hb dc_Mo_size_17 rfl (lv_at hl 1 rfl) ?_
      refine ka_nald (t := fz) hx hb hK hP 1 0 rfl rfl (j := jx) (by omega) (by omega) dc_Mo_size_18 ?_
      refine lv_goto hx hb dc_Mo_size_19 rfl ?_
      exact kw_iret hx hb hr hlocks hP hD hS dc_Mo_size_25 (by rw [hzx, if_pos hx9]) (rfl)

set_option maxHeartbeats 4000000 in
set_option maxRecDepth 100000 in
theorem ct_Mo_literal (l : Launch) (D : va_G) (cI cZ : ClassId) (sz : Nat) (o : Nat) (mth : Nat) (mty : Nat) (x0 : Nat) (mat : Nat) (mfr : Nat) (mto : Nat) (mgd : Bool) (mrd : Nat) (x1 : Nat) (x2 : Nat) (x3 : Nat) (mhf : Bool) (mhp : Bool) (mcl : Bool) (mck : Bool) (mba : Nat) (mct : Nat) (x4 : Nat) (x5 : Nat) (x6 : Nat) (x7 : Nat) (x8 : Nat) (mst : Nat) (x9 : Nat) (x10 : Nat) (x11 : Nat) (x12 : Nat) (mtr : Nat) (mrs : Nat) (x13 : Nat) (x14 : Nat) (x15 : Nat) (x16 : Nat) (mwr : Nat) (x17 : Nat) (mfo : Nat) (fz : Nat → Nat) (fl : Nat → Int32) (x : Int32) (y : Int32) (hct : mct ≤ 32) (hz : ∀ j, 1 ≤ j → j ≤ mct → fz j ≤ 8) : Met l yn_Mo_literal (Cond.code yn_Mo_literal bc_Mo_literal 3 (some .int) :: kx_all) ({ frames := 1, cells := 0, slots := 0, locals := 21 } : Room) (kp [.ref o, .int x, .int y] D cI cZ [mo_c o mth mty x0 mat mfr mto mgd mrd x1 x2 x3 mhf mhp mcl mck mba mct x4 x5 x6 x7 x8 mst x9 x10 x11 x12 mtr mrs x13 x14 x15 x16 mwr x17 mfo, ar_n cI x5 33 fz, ar_i cI x6 264 fl] sz) (kw_q (some (.int (if (1 ≤ pt_num x ∧ pt_num x ≤ mct) ∧ ¬ y < 0 ∧ pt_num y < fz (pt_num x) then fl (pt_num x * 8 + pt_num y) else 0))) D kc_l [mo_c o 0 mty x0 mat mfr mto mgd mrd x1 x2 x3 mhf mhp mcl mck mba mct x4 x5 x6 x7 x8 mst x9 x10 x11 x12 mtr mrs x13 x14 x15 x16 mwr x17 mfo, ar_n cI x5 33 fz, ar_i cI x6 264 fl] (va_A [mo_c o mth mty x0 mat mfr mto mgd mrd x1 x2 x3 mhf mhp mcl mck mba mct x4 x5 x6 x7 x8 mst x9 x10 x11 x12 mtr mrs x13 x14 x15 x16 mwr x17 mfo, ar_n cI x5 33 fz, ar_i cI x6 264 fl] sz)) 0 0 (va_A [mo_c o mth mty x0 mat mfr mto mgd mrd x1 x2 x3 mhf mhp mcl mck mba mct x4 x5 x6 x7 x8 mst x9 x10 x11 x12 mtr mrs x13 x14 x15 x16 mwr x17 mfo, ar_n cI x5 33 fz, ar_i cI x6 264 fl] sz) := by
  refine kx_metW (by decide) (Nat.le_of_ble_eq_true rfl) ?_
  intro p e s m below meth c ls A hx hb hr hml hts hown hlocks hin hA hP hK hD hN hl hS
  have hown : s.vm.findClass rn_Mo = some m.cls := hown
  have hl : lv_has ls 3 [(0, .ref o), (1, .int x), (2, .int y)] := hl
  rcases num_or x with ⟨hix, hzx⟩ | ⟨jx, hjx, rfl, hzx⟩
  · rcases num_or y with ⟨hiy, hzy⟩ | ⟨jy, hjy, rfl, hzy⟩
    · refine lv_aload_n hx hb dc_Mo_literal_0 rfl (lv_at hl 0 rfl) ?_
      refine lv_iconst (v := nI 0) hx hb dc_Mo_literal_1 (by decide +kernel) ?_
      refine va_put (ci := 10) (v := .int (nI 0)) (ty := .int) (C := rn_Mo) (T := fd_Mo) (N := 36) hx hb hts in_Mo ty_Mo tk_Mo nm_Mo hown hK hP hD hS 0 rfl rfl 0 (by decide) (hts _ wd_746) (fun _ h9 => h9) rfl (by decide +kernel) rfl rfl (Nat.le_of_ble_eq_true rfl) dc_Mo_literal_2 (fun H locs hP hD hS => ?_)
      have hP : va_P D kc_l [mo_c o 0 mty x0 mat mfr mto mgd mrd x1 x2 x3 mhf mhp mcl mck mba mct x4 x5 x6 x7 x8 mst x9 x10 x11 x12 mtr mrs x13 x14 x15 x16 mwr x17 mfo, ar_n cI x5 33 fz, ar_i cI x6 264 fl] H := hP
      have hD : va_D A [mo_c o 0 mty x0 mat mfr mto mgd mrd x1 x2 x3 mhf mhp mcl mck mba mct x4 x5 x6 x7 x8 mst x9 x10 x11 x12 mtr mrs x13 x14 x15 x16 mwr x17 mfo, ar_n cI x5 33 fz, ar_i cI x6 264 fl] := hD
      refine lv_aload_n hx hb dc_Mo_literal_5 rfl (lv_at hl 0 rfl) ?_
      refine lv_iload_n hx hb dc_Mo_literal_6 rfl (lv_at hl 1 rfl) ?_
      refine kr_call1 (va_runV (As := [.int x]) (rest := []) ⟨hx, hb, hml, hown, hts⟩ (ct_Mo_isClause_any l D cI cZ _ o 0 mty x0 mat mfr mto mgd mrd x1 x2 x3 mhf mhp mcl mck mba mct x4 x5 x6 x7 x8 mst x9 x10 x11 x12 mtr mrs x13 x14 x15 x16 mwr x17 mfo x (by omega)) (cwV 1 hts (kx_gV wd_992 wd_994 (kx_sel (q := (yn_Mo_isClause, 36)) (List.mem_append_right _ (List.mem_append_right _ (List.mem_of_getElem? (i := 3) rfl)))) wd_9 wd_995) rfl rfl rfl ⟨rfl, yd_Mo_isClause⟩ ⟨Nat.le_of_ble_eq_true rfl, Nat.le_of_ble_eq_true rfl⟩) (kp_V (q0 := 0) (ci := 10) hP hD hK hN [0] rfl rfl rfl rfl rfl) rfl rfl hl.1 rfl (lv_room (Nat.le_of_ble_eq_true rfl)) dc_Mo_literal_7 ⟨Nat.le_of_ble_eq_true rfl, Nat.le_of_ble_eq_true rfl⟩) ?_
      refine kb_if_eq hx hb dc_Mo_literal_10 rfl (fun hc10 => ?_) (fun hc10 => ?_)
      · refine lv_iconst (v := nI 0) hx hb dc_Mo_literal_41 (by decide +kernel) ?_
        exact kw_iret hx hb hr hlocks hP hD hS dc_Mo_literal_42 (by rw [hzx, if_neg (fun q => by omega)]; rfl) (rfl)
      · exact absurd hc10 (by rw [hzx]; simp)
    · refine lv_aload_n hx hb dc_Mo_literal_0 rfl (lv_at hl 0 rfl) ?_
      refine lv_iconst (v := nI 0) hx hb dc_Mo_literal_1 (by decide +kernel) ?_
      refine va_put (ci := 10) (v := .int (nI 0)) (ty := .int) (C := rn_Mo) (T := fd_Mo) (N := 36) hx hb hts in_Mo ty_Mo tk_Mo nm_Mo hown hK hP hD hS 0 rfl rfl 0 (by decide) (hts _ wd_746) (fun _ h9 => h9) rfl (by decide +kernel) rfl rfl (Nat.le_of_ble_eq_true rfl) dc_Mo_literal_2 (fun H locs hP hD hS => ?_)
      have hP : va_P D kc_l [mo_c o 0 mty x0 mat mfr mto mgd mrd x1 x2 x3 mhf mhp mcl mck mba mct x4 x5 x6 x7 x8 mst x9 x10 x11 x12 mtr mrs x13 x14 x15 x16 mwr x17 mfo, ar_n cI x5 33 fz, ar_i cI x6 264 fl] H := hP
      have hD : va_D A [mo_c o 0 mty x0 mat mfr mto mgd mrd x1 x2 x3 mhf mhp mcl mck mba mct x4 x5 x6 x7 x8 mst x9 x10 x11 x12 mtr mrs x13 x14 x15 x16 mwr x17 mfo, ar_n cI x5 33 fz, ar_i cI x6 264 fl] := hD
      refine lv_aload_n hx hb dc_Mo_literal_5 rfl (lv_at hl 0 rfl) ?_
      refine lv_iload_n hx hb dc_Mo_literal_6 rfl (lv_at hl 1 rfl) ?_
      refine kr_call1 (va_runV (As := [.int x]) (rest := []) ⟨hx, hb, hml, hown, hts⟩ (ct_Mo_isClause_any l D cI cZ _ o 0 mty x0 mat mfr mto mgd mrd x1 x2 x3 mhf mhp mcl mck mba mct x4 x5 x6 x7 x8 mst x9 x10 x11 x12 mtr mrs x13 x14 x15 x16 mwr x17 mfo x (by omega)) (cwV 1 hts (kx_gV wd_992 wd_994 (kx_sel (q := (yn_Mo_isClause, 36)) (List.mem_append_right _ (List.mem_append_right _ (List.mem_of_getElem? (i := 3) rfl)))) wd_9 wd_995) rfl rfl rfl ⟨rfl, yd_Mo_isClause⟩ ⟨Nat.le_of_ble_eq_true rfl, Nat.le_of_ble_eq_true rfl⟩) (kp_V (q0 := 0) (ci := 10) hP hD hK hN [0] rfl rfl rfl rfl rfl) rfl rfl hl.1 rfl (lv_room (Nat.le_of_ble_eq_true rfl)) dc_Mo_literal_7 ⟨Nat.le_of_ble_eq_true rfl, Nat.le_of_ble_eq_true rfl⟩) ?_
      refine kb_if_eq hx hb dc_Mo_literal_10 rfl (fun hc10 => ?_) (fun hc10 => ?_)
      · refine lv_iconst (v := nI 0) hx hb dc_Mo_literal_41 (by decide +kernel) ?_
        exact kw_iret hx hb hr hlocks hP hD hS dc_Mo_literal_42 (by rw [hzx, if_neg (fun q => by omega)]; rfl) (rfl)
      · exact absurd hc10 (by rw [hzx]; simp)
  · rcases num_or y with ⟨hiy, hzy⟩ | ⟨jy, hjy, rfl, hzy⟩
    · refine lv_aload_n hx hb dc_Mo_literal_0 rfl (lv_at hl 0 rfl) ?_
      refine lv_iconst (v := nI 0) hx hb dc_Mo_literal_1 (by decide +kernel) ?_
      refine va_put (ci := 10) (v := .int (nI 0)) (ty := .int) (C := rn_Mo) (T := fd_Mo) (N := 36) hx hb hts in_Mo ty_Mo tk_Mo nm_Mo hown hK hP hD hS 0 rfl rfl 0 (by decide) (hts _ wd_746) (fun _ h9 => h9) rfl (by decide +kernel) rfl rfl (Nat.le_of_ble_eq_true rfl) dc_Mo_literal_2 (fun H locs hP hD hS => ?_)
      have hP : va_P D kc_l [mo_c o 0 mty x0 mat mfr mto mgd mrd x1 x2 x3 mhf mhp mcl mck mba mct x4 x5 x6 x7 x8 mst x9 x10 x11 x12 mtr mrs x13 x14 x15 x16 mwr x17 mfo, ar_n cI x5 33 fz, ar_i cI x6 264 fl] H := hP
      have hD : va_D A [mo_c o 0 mty x0 mat mfr mto mgd mrd x1 x2 x3 mhf mhp mcl mck mba mct x4 x5 x6 x7 x8 mst x9 x10 x11 x12 mtr mrs x13 x14 x15 x16 mwr x17 mfo, ar_n cI x5 33 fz, ar_i cI x6 264 fl] := hD
      refine lv_aload_n hx hb dc_Mo_literal_5 rfl (lv_at hl 0 rfl) ?_
      refine lv_iload_n hx hb dc_Mo_literal_6 rfl (lv_at hl 1 rfl) ?_
      refine kr_call1 (va_runV (As := [.int (nI jx)]) (rest := []) ⟨hx, hb, hml, hown, hts⟩ (ct_Mo_isClause_any l D cI cZ _ o 0 mty x0 mat mfr mto mgd mrd x1 x2 x3 mhf mhp mcl mck mba mct x4 x5 x6 x7 x8 mst x9 x10 x11 x12 mtr mrs x13 x14 x15 x16 mwr x17 mfo (nI jx) (by omega)) (cwV 1 hts (kx_gV wd_992 wd_994 (kx_sel (q := (yn_Mo_isClause, 36)) (List.mem_append_right _ (List.mem_append_right _ (List.mem_of_getElem? (i := 3) rfl)))) wd_9 wd_995) rfl rfl rfl ⟨rfl, yd_Mo_isClause⟩ ⟨Nat.le_of_ble_eq_true rfl, Nat.le_of_ble_eq_true rfl⟩) (kp_V (q0 := 0) (ci := 10) hP hD hK hN [0] rfl rfl rfl rfl rfl) rfl rfl hl.1 rfl (lv_room (Nat.le_of_ble_eq_true rfl)) dc_Mo_literal_7 ⟨Nat.le_of_ble_eq_true rfl, Nat.le_of_ble_eq_true rfl⟩) ?_
      refine kb_if_eq hx hb dc_Mo_literal_10 rfl (fun hc10 => ?_) (fun hc10 => ?_)
      · have hx9 := of_decide_eq_false hc10
        refine lv_iconst (v := nI 0) hx hb dc_Mo_literal_41 (by decide +kernel) ?_
        exact kw_iret hx hb hr hlocks hP hD hS dc_Mo_literal_42 (by rw [if_neg (fun q => hx9 q.1)]; rfl) (rfl)
      · have hx9 := of_decide_eq_true hc10
        rw [hzx] at hx9
        refine lv_iload_n hx hb dc_Mo_literal_13 rfl (lv_at hl 2 rfl) ?_
        refine lv_if_lt hx hb dc_Mo_literal_14 rfl (fun hc14 => ?_) (fun hc14 => ?_)
        · refine lv_iconst (v := nI 0) hx hb dc_Mo_literal_41 (by decide +kernel) ?_
          exact kw_iret hx hb hr hlocks hP hD hS dc_Mo_literal_42 (by rw [if_neg (fun q => q.2.1 hiy)]; rfl) (rfl)
        · exact absurd hiy hc14
    · refine lv_aload_n hx hb dc_Mo_literal_0 rfl (lv_at hl 0 rfl) ?_
      refine lv_iconst (v := nI 0) hx hb dc_Mo_literal_1 (by decide +kernel) ?_
      refine va_put (ci := 10) (v := .int (nI 0)) (ty := .int) (C := rn_Mo) (T := fd_Mo) (N := 36) hx hb hts in_Mo ty_Mo tk_Mo nm_Mo hown hK hP hD hS 0 rfl rfl 0 (by decide) (hts _ wd_746) (fun _ h9 => h9) rfl (by decide +kernel) rfl rfl (Nat.le_of_ble_eq_true rfl) dc_Mo_literal_2 (fun H locs hP hD hS => ?_)
      have hP : va_P D kc_l [mo_c o 0 mty x0 mat mfr mto mgd mrd x1 x2 x3 mhf mhp mcl mck mba mct x4 x5 x6 x7 x8 mst x9 x10 x11 x12 mtr mrs x13 x14 x15 x16 mwr x17 mfo, ar_n cI x5 33 fz, ar_i cI x6 264 fl] H := hP
      have hD : va_D A [mo_c o 0 mty x0 mat mfr mto mgd mrd x1 x2 x3 mhf mhp mcl mck mba mct x4 x5 x6 x7 x8 mst x9 x10 x11 x12 mtr mrs x13 x14 x15 x16 mwr x17 mfo, ar_n cI x5 33 fz, ar_i cI x6 264 fl] := hD
      refine lv_aload_n hx hb dc_Mo_literal_5 rfl (lv_at hl 0 rfl) ?_
      refine lv_iload_n hx hb dc_Mo_literal_6 rfl (lv_at hl 1 rfl) ?_
      refine kr_call1 (va_runV (As := [.int (nI jx)]) (rest := []) ⟨hx, hb, hml, hown, hts⟩ (ct_Mo_isClause_any l D cI cZ _ o 0 mty x0 mat mfr mto mgd mrd x1 x2 x3 mhf mhp mcl mck mba mct x4 x5 x6 x7 x8 mst x9 x10 x11 x12 mtr mrs x13 x14 x15 x16 mwr x17 mfo (nI jx) (by omega)) (cwV 1 hts (kx_gV wd_992 wd_994 (kx_sel (q := (yn_Mo_isClause, 36)) (List.mem_append_right _ (List.mem_append_right _ (List.mem_of_getElem? (i := 3) rfl)))) wd_9 wd_995) rfl rfl rfl ⟨rfl, yd_Mo_isClause⟩ ⟨Nat.le_of_ble_eq_true rfl, Nat.le_of_ble_eq_true rfl⟩) (kp_V (q0 := 0) (ci := 10) hP hD hK hN [0] rfl rfl rfl rfl rfl) rfl rfl hl.1 rfl (lv_room (Nat.le_of_ble_eq_true rfl)) dc_Mo_literal_7 ⟨Nat.le_of_ble_eq_true rfl, Nat.le_of_ble_eq_true rfl⟩) ?_
      refine kb_if_eq hx hb dc_Mo_literal_10 rfl (fun hc10 => ?_) (fun hc10 => ?_)
      · have hx9 := of_decide_eq_false hc10
        refine lv_iconst (v := nI 0) hx hb dc_Mo_literal_41 (by decide +kernel) ?_
        exact kw_iret hx hb hr hlocks hP hD hS dc_Mo_literal_42 (by rw [if_neg (fun q => hx9 q.1)]; rfl) (rfl)
      · have hx9 := of_decide_eq_true hc10
        rw [hzx] at hx9
        refine lv_iload_n hx hb dc_Mo_literal_13 rfl (lv_at hl 2 rfl) ?_
        refine lv_if_lt hx hb dc_Mo_literal_14 rfl (fun hc14 => ?_) (fun hc14 => ?_)
        · exact absurd hc14 (nI_p hjy)
        · refine lv_iload_n hx hb dc_Mo_literal_17 rfl (lv_at hl 2 rfl) ?_
          refine lv_aload_n hx hb dc_Mo_literal_18 rfl (lv_at hl 0 rfl) ?_
          refine va_get (ci := 10) (v := .ref x5) (C := rn_Mo) (T := fd_Mo) (N := 36) hx hb hts in_Mo hown hK hP 0 rfl rfl 18 (by decide) (hts _ wd_764) (fun _ h9 => h9) rfl dc_Mo_literal_19 ?_
          refine lv_iload_n hx hb dc_Mo_literal_22 rfl (lv_at hl 1 rfl) ?_
          refine ka_nald (t := fz) hx hb hK hP 1 0 rfl rfl (j := jx) (by omega) (by omega) dc_Mo_literal_23 ?_
          refine kn_icmp_ge hx hb (by omega) (Nat.lt_of_le_of_lt (hz jx (by omega) (by omega)) (by decide)) dc_Mo_literal_24 rfl (fun hc24 => ?_) (fun hc24 => ?_)
          · refine lv_iconst (v := nI 0) hx hb dc_Mo_literal_41 (by decide +kernel) ?_
            exact kw_iret hx hb hr hlocks hP hD hS dc_Mo_literal_42 (by rw [hzx, hzy, if_neg (fun q => by have := q.2.2; omega)]; rfl) (rfl)
          · refine lv_aload_n hx hb dc_Mo_literal_27 rfl (lv_at hl 0 rfl) ?_
            refine va_get (ci := 10) (v := .ref x6) (C := rn_Mo) (T := fd_Mo) (N := 36) hx hb hts in_Mo hown hK hP 0 rfl rfl 19 (by decide) (hts _ wd_765) (fun _ h9 => h9) rfl dc_Mo_literal_28 ?_
            refine lv_bipush (v := nI 8) hx hb dc_Mo_literal_31 (by decide +kernel) ?_
            refine lv_iload_n hx hb dc_Mo_literal_33 rfl (lv_at hl 1 rfl) ?_
            refine kn_imul hx hb dc_Mo_literal_34 ?_
            refine lv_iload_n hx hb dc_Mo_literal_35 rfl (lv_at hl 2 rfl) ?_
            refine kn_iadd hx hb dc_Mo_literal_36 ?_
            refine ka_iald (f := fl) hx hb hK hP 2 0 rfl rfl (j := (8 * jx) + jy) (by have := hz jx (by omega) (by omega); omega) (by omega) dc_Mo_literal_37 ?_
            refine lv_goto hx hb dc_Mo_literal_38 rfl ?_
            exact kw_iret hx hb hr hlocks hP hD hS dc_Mo_literal_42 (by rw [hzx, hzy, if_pos ⟨hx9, nI_p hjy, hc24⟩, Nat.mul_comm]) (rfl)

set_option maxHeartbeats 4000000 in
set_option maxRecDepth 100000 in
theorem ct_Mo_step (l : Launch) (D : va_G) (cI cZ : ClassId) (sz : Nat) (o : Nat) (mth : Nat) (mty : Nat) (x0 : Nat) (mat : Nat) (mfr : Nat) (mto : Nat) (mgd : Bool) (mrd : Nat) (x1 : Nat) (x2 : Nat) (x3 : Nat) (mhf : Bool) (mhp : Bool) (mcl : Bool) (mck : Bool) (mba : Nat) (mct : Nat) (x4 : Nat) (x5 : Nat) (x6 : Nat) (x7 : Nat) (x8 : Nat) (mst : Nat) (x9 : Nat) (x10 : Nat) (x11 : Nat) (x12 : Nat) (mtr : Nat) (mrs : Nat) (x13 : Nat) (x14 : Nat) (x15 : Nat) (x16 : Nat) (mwr : Nat) (x17 : Nat) (mfo : Nat) (nu : Nat → Nat) (x : Int32) (hst : mst ≤ 16) : Met l yn_Mo_step (Cond.code yn_Mo_step bc_Mo_step 2 (some .int) :: kx_all) ({ frames := 0, cells := 0, slots := 0, locals := 0 } : Room) (kp [.ref o, .int x] D cI cZ [mo_c o mth mty x0 mat mfr mto mgd mrd x1 x2 x3 mhf mhp mcl mck mba mct x4 x5 x6 x7 x8 mst x9 x10 x11 x12 mtr mrs x13 x14 x15 x16 mwr x17 mfo, ar_n cI x10 17 nu] sz) (kw_q (some (.int (if 1 ≤ pt_num x ∧ pt_num x ≤ mst then nI (nu (pt_num x)) else (-1000)))) D kc_l [mo_c o 0 mty x0 mat mfr mto mgd mrd x1 x2 x3 mhf mhp mcl mck mba mct x4 x5 x6 x7 x8 mst x9 x10 x11 x12 mtr mrs x13 x14 x15 x16 mwr x17 mfo, ar_n cI x10 17 nu] (va_A [mo_c o mth mty x0 mat mfr mto mgd mrd x1 x2 x3 mhf mhp mcl mck mba mct x4 x5 x6 x7 x8 mst x9 x10 x11 x12 mtr mrs x13 x14 x15 x16 mwr x17 mfo, ar_n cI x10 17 nu] sz)) 0 0 (va_A [mo_c o mth mty x0 mat mfr mto mgd mrd x1 x2 x3 mhf mhp mcl mck mba mct x4 x5 x6 x7 x8 mst x9 x10 x11 x12 mtr mrs x13 x14 x15 x16 mwr x17 mfo, ar_n cI x10 17 nu] sz) := by
  refine kx_metW (by decide) (Nat.le_of_ble_eq_true rfl) ?_
  intro p e s m below meth c ls A hx hb hr hml hts hown hlocks hin hA hP hK hD hN hl hS
  have hown : s.vm.findClass rn_Mo = some m.cls := hown
  have hl : lv_has ls 2 [(0, .ref o), (1, .int x)] := hl
  rcases num_or x with ⟨hix, hzx⟩ | ⟨jx, hjx, rfl, hzx⟩
  · refine lv_aload_n hx hb dc_Mo_step_0 rfl (lv_at hl 0 rfl) ?_
    refine lv_iconst (v := nI 0) hx hb dc_Mo_step_1 (by decide +kernel) ?_
    refine va_put (ci := 10) (v := .int (nI 0)) (ty := .int) (C := rn_Mo) (T := fd_Mo) (N := 36) hx hb hts in_Mo ty_Mo tk_Mo nm_Mo hown hK hP hD hS 0 rfl rfl 0 (by decide) (hts _ wd_746) (fun _ h9 => h9) rfl (by decide +kernel) rfl rfl (Nat.le_of_ble_eq_true rfl) dc_Mo_step_2 (fun H locs hP hD hS => ?_)
    have hP : va_P D kc_l [mo_c o 0 mty x0 mat mfr mto mgd mrd x1 x2 x3 mhf mhp mcl mck mba mct x4 x5 x6 x7 x8 mst x9 x10 x11 x12 mtr mrs x13 x14 x15 x16 mwr x17 mfo, ar_n cI x10 17 nu] H := hP
    have hD : va_D A [mo_c o 0 mty x0 mat mfr mto mgd mrd x1 x2 x3 mhf mhp mcl mck mba mct x4 x5 x6 x7 x8 mst x9 x10 x11 x12 mtr mrs x13 x14 x15 x16 mwr x17 mfo, ar_n cI x10 17 nu] := hD
    refine lv_iload_n hx hb dc_Mo_step_5 rfl (lv_at hl 1 rfl) ?_
    refine lv_if_le hx hb dc_Mo_step_6 rfl (fun hc6 => ?_) (fun hc6 => ?_)
    · refine lv_sipush (v := (-1000)) hx hb dc_Mo_step_26 (by decide +kernel) ?_
      exact kw_iret hx hb hr hlocks hP hD hS dc_Mo_step_29 (by rw [hzx, if_neg (by omega)]) (rfl)
    · exact absurd (le_of_l hix) hc6
  · refine lv_aload_n hx hb dc_Mo_step_0 rfl (lv_at hl 0 rfl) ?_
    refine lv_iconst (v := nI 0) hx hb dc_Mo_step_1 (by decide +kernel) ?_
    refine va_put (ci := 10) (v := .int (nI 0)) (ty := .int) (C := rn_Mo) (T := fd_Mo) (N := 36) hx hb hts in_Mo ty_Mo tk_Mo nm_Mo hown hK hP hD hS 0 rfl rfl 0 (by decide) (hts _ wd_746) (fun _ h9 => h9) rfl (by decide +kernel) rfl rfl (Nat.le_of_ble_eq_true rfl) dc_Mo_step_2 (fun H locs hP hD hS => ?_)
    have hP : va_P D kc_l [mo_c o 0 mty x0 mat mfr mto mgd mrd x1 x2 x3 mhf mhp mcl mck mba mct x4 x5 x6 x7 x8 mst x9 x10 x11 x12 mtr mrs x13 x14 x15 x16 mwr x17 mfo, ar_n cI x10 17 nu] H := hP
    have hD : va_D A [mo_c o 0 mty x0 mat mfr mto mgd mrd x1 x2 x3 mhf mhp mcl mck mba mct x4 x5 x6 x7 x8 mst x9 x10 x11 x12 mtr mrs x13 x14 x15 x16 mwr x17 mfo, ar_n cI x10 17 nu] := hD
    refine lv_iload_n hx hb dc_Mo_step_5 rfl (lv_at hl 1 rfl) ?_
    refine lv_if_le hx hb dc_Mo_step_6 rfl (fun hc6 => ?_) (fun hc6 => ?_)
    · refine lv_sipush (v := (-1000)) hx hb dc_Mo_step_26 (by decide +kernel) ?_
      exact kw_iret hx hb hr hlocks hP hD hS dc_Mo_step_29 (by rw [hzx, nI_l0 hjx hc6, if_neg (by omega)]) (rfl)
    · refine lv_iload_n hx hb dc_Mo_step_9 rfl (lv_at hl 1 rfl) ?_
      refine lv_aload_n hx hb dc_Mo_step_10 rfl (lv_at hl 0 rfl) ?_
      refine va_get (ci := 10) (v := .int (nI mst)) (C := rn_Mo) (T := fd_Mo) (N := 36) hx hb hts in_Mo hown hK hP 0 rfl rfl 22 (by decide) (hts _ wd_768) (fun _ h9 => h9) rfl dc_Mo_step_11 ?_
      refine kn_icmp_gt hx hb (by omega) (by omega) dc_Mo_step_14 rfl (fun hc14 => ?_) (fun hc14 => ?_)
      · refine lv_sipush (v := (-1000)) hx hb dc_Mo_step_26 (by decide +kernel) ?_
        exact kw_iret hx hb hr hlocks hP hD hS dc_Mo_step_29 (by rw [hzx, if_neg (by omega)]) (rfl)
      · refine lv_aload_n hx hb dc_Mo_step_17 rfl (lv_at hl 0 rfl) ?_
        refine va_get (ci := 10) (v := .ref x10) (C := rn_Mo) (T := fd_Mo) (N := 36) hx hb hts in_Mo hown hK hP 0 rfl rfl 24 (by decide) (hts _ wd_770) (fun _ h9 => h9) rfl dc_Mo_step_18 ?_
        refine lv_iload_n hx hb dc_Mo_step_21 rfl (lv_at hl 1 rfl) ?_
        refine ka_nald (t := nu) hx hb hK hP 1 0 rfl rfl (j := jx) (by omega) (by omega) dc_Mo_step_22 ?_
        refine lv_goto hx hb dc_Mo_step_23 rfl ?_
        exact kw_iret hx hb hr hlocks hP hD hS dc_Mo_step_29 (by rw [hzx, if_pos ⟨nI_g0 hc6, by omega⟩]) (rfl)

set_option maxHeartbeats 4000000 in
set_option maxRecDepth 100000 in
theorem ct_Mo_marked (l : Launch) (D : va_G) (cI cZ : ClassId) (sz : Nat) (o : Nat) (mth : Nat) (mty : Nat) (x0 : Nat) (mat : Nat) (mfr : Nat) (mto : Nat) (mgd : Bool) (mrd : Nat) (x1 : Nat) (x2 : Nat) (x3 : Nat) (mhf : Bool) (mhp : Bool) (mcl : Bool) (mck : Bool) (mba : Nat) (mct : Nat) (x4 : Nat) (x5 : Nat) (x6 : Nat) (x7 : Nat) (x8 : Nat) (mst : Nat) (x9 : Nat) (x10 : Nat) (x11 : Nat) (x12 : Nat) (mtr : Nat) (mrs : Nat) (x13 : Nat) (x14 : Nat) (x15 : Nat) (x16 : Nat) (mwr : Nat) (x17 : Nat) (mfo : Nat) (kb : Nat → Bool) (x : Int32) (hct : mct ≤ 32) : Met l yn_Mo_marked (Cond.code yn_Mo_marked bc_Mo_marked 2 (some .boolean) :: kx_all) ({ frames := 1, cells := 0, slots := 0, locals := 21 } : Room) (kp [.ref o, .int x] D cI cZ [mo_c o mth mty x0 mat mfr mto mgd mrd x1 x2 x3 mhf mhp mcl mck mba mct x4 x5 x6 x7 x8 mst x9 x10 x11 x12 mtr mrs x13 x14 x15 x16 mwr x17 mfo, ar_b cZ x8 33 kb] sz) (kw_q (some (.int (kb_i (mck && decide (1 ≤ pt_num x ∧ pt_num x ≤ mct) && kb (pt_num x))))) D kc_l [mo_c o 0 mty x0 mat mfr mto mgd mrd x1 x2 x3 mhf mhp mcl mck mba mct x4 x5 x6 x7 x8 mst x9 x10 x11 x12 mtr mrs x13 x14 x15 x16 mwr x17 mfo, ar_b cZ x8 33 kb] (va_A [mo_c o mth mty x0 mat mfr mto mgd mrd x1 x2 x3 mhf mhp mcl mck mba mct x4 x5 x6 x7 x8 mst x9 x10 x11 x12 mtr mrs x13 x14 x15 x16 mwr x17 mfo, ar_b cZ x8 33 kb] sz)) 0 0 (va_A [mo_c o mth mty x0 mat mfr mto mgd mrd x1 x2 x3 mhf mhp mcl mck mba mct x4 x5 x6 x7 x8 mst x9 x10 x11 x12 mtr mrs x13 x14 x15 x16 mwr x17 mfo, ar_b cZ x8 33 kb] sz) := by
  refine kx_metW (by decide) (Nat.le_of_ble_eq_true rfl) ?_
  intro p e s m below meth c ls A hx hb hr hml hts hown hlocks hin hA hP hK hD hN hl hS
  have hown : s.vm.findClass rn_Mo = some m.cls := hown
  have hl : lv_has ls 2 [(0, .ref o), (1, .int x)] := hl
  rcases num_or x with ⟨hix, hzx⟩ | ⟨jx, hjx, rfl, hzx⟩
  · refine lv_aload_n hx hb dc_Mo_marked_0 rfl (lv_at hl 0 rfl) ?_
    refine lv_iconst (v := nI 0) hx hb dc_Mo_marked_1 (by decide +kernel) ?_
    refine va_put (ci := 10) (v := .int (nI 0)) (ty := .int) (C := rn_Mo) (T := fd_Mo) (N := 36) hx hb hts in_Mo ty_Mo tk_Mo nm_Mo hown hK hP hD hS 0 rfl rfl 0 (by decide) (hts _ wd_746) (fun _ h9 => h9) rfl (by decide +kernel) rfl rfl (Nat.le_of_ble_eq_true rfl) dc_Mo_marked_2 (fun H locs hP hD hS => ?_)
    have hP : va_P D kc_l [mo_c o 0 mty x0 mat mfr mto mgd mrd x1 x2 x3 mhf mhp mcl mck mba mct x4 x5 x6 x7 x8 mst x9 x10 x11 x12 mtr mrs x13 x14 x15 x16 mwr x17 mfo, ar_b cZ x8 33 kb] H := hP
    have hD : va_D A [mo_c o 0 mty x0 mat mfr mto mgd mrd x1 x2 x3 mhf mhp mcl mck mba mct x4 x5 x6 x7 x8 mst x9 x10 x11 x12 mtr mrs x13 x14 x15 x16 mwr x17 mfo, ar_b cZ x8 33 kb] := hD
    refine lv_aload_n hx hb dc_Mo_marked_5 rfl (lv_at hl 0 rfl) ?_
    refine va_get (ci := 10) (v := .int (kb_i mck)) (C := rn_Mo) (T := fd_Mo) (N := 36) hx hb hts in_Mo hown hK hP 0 rfl rfl 14 (by decide) (hts _ wd_760) (fun _ h9 => h9) rfl dc_Mo_marked_6 ?_
    refine kb_if_eq hx hb dc_Mo_marked_9 rfl (fun hc9 => ?_) (fun hc9 => ?_)
    · refine lv_iconst (v := nI 0) hx hb dc_Mo_marked_33 (by decide +kernel) ?_
      refine kn_top (y := kb_i false) (by decide +kernel) ?_
      exact kw_zret hx hb hr hlocks hP hD hS dc_Mo_marked_34 (by rw [hc9]; rfl) (rfl)
    · refine lv_aload_n hx hb dc_Mo_marked_12 rfl (lv_at hl 0 rfl) ?_
      refine lv_iload_n hx hb dc_Mo_marked_13 rfl (lv_at hl 1 rfl) ?_
      refine kr_call1 (va_runV (As := [.int x]) (rest := []) ⟨hx, hb, hml, hown, hts⟩ (ct_Mo_isClause_any l D cI cZ _ o 0 mty x0 mat mfr mto mgd mrd x1 x2 x3 mhf mhp mcl mck mba mct x4 x5 x6 x7 x8 mst x9 x10 x11 x12 mtr mrs x13 x14 x15 x16 mwr x17 mfo x (by omega)) (cwV 1 hts (kx_gV wd_992 wd_994 (kx_sel (q := (yn_Mo_isClause, 36)) (List.mem_append_right _ (List.mem_append_right _ (List.mem_of_getElem? (i := 3) rfl)))) wd_9 wd_995) rfl rfl rfl ⟨rfl, yd_Mo_isClause⟩ ⟨Nat.le_of_ble_eq_true rfl, Nat.le_of_ble_eq_true rfl⟩) (kp_V (q0 := 0) (ci := 10) hP hD hK hN [0] rfl rfl rfl rfl rfl) rfl rfl hl.1 rfl (lv_room (Nat.le_of_ble_eq_true rfl)) dc_Mo_marked_14 ⟨Nat.le_of_ble_eq_true rfl, Nat.le_of_ble_eq_true rfl⟩) ?_
      refine kb_if_eq hx hb dc_Mo_marked_17 rfl (fun hc17 => ?_) (fun hc17 => ?_)
      · refine lv_iconst (v := nI 0) hx hb dc_Mo_marked_33 (by decide +kernel) ?_
        refine kn_top (y := kb_i false) (by decide +kernel) ?_
        exact kw_zret hx hb hr hlocks hP hD hS dc_Mo_marked_34 (by rw [hzx, decide_eq_false (by omega), Bool.and_false, Bool.false_and]) (rfl)
      · exact absurd hc17 (by rw [hzx]; simp)
  · refine lv_aload_n hx hb dc_Mo_marked_0 rfl (lv_at hl 0 rfl) ?_
    refine lv_iconst (v := nI 0) hx hb dc_Mo_marked_1 (by decide +kernel) ?_
    refine va_put (ci := 10) (v := .int (nI 0)) (ty := .int) (C := rn_Mo) (T := fd_Mo) (N := 36) hx hb hts in_Mo ty_Mo tk_Mo nm_Mo hown hK hP hD hS 0 rfl rfl 0 (by decide) (hts _ wd_746) (fun _ h9 => h9) rfl (by decide +kernel) rfl rfl (Nat.le_of_ble_eq_true rfl) dc_Mo_marked_2 (fun H locs hP hD hS => ?_)
    have hP : va_P D kc_l [mo_c o 0 mty x0 mat mfr mto mgd mrd x1 x2 x3 mhf mhp mcl mck mba mct x4 x5 x6 x7 x8 mst x9 x10 x11 x12 mtr mrs x13 x14 x15 x16 mwr x17 mfo, ar_b cZ x8 33 kb] H := hP
    have hD : va_D A [mo_c o 0 mty x0 mat mfr mto mgd mrd x1 x2 x3 mhf mhp mcl mck mba mct x4 x5 x6 x7 x8 mst x9 x10 x11 x12 mtr mrs x13 x14 x15 x16 mwr x17 mfo, ar_b cZ x8 33 kb] := hD
    refine lv_aload_n hx hb dc_Mo_marked_5 rfl (lv_at hl 0 rfl) ?_
    refine va_get (ci := 10) (v := .int (kb_i mck)) (C := rn_Mo) (T := fd_Mo) (N := 36) hx hb hts in_Mo hown hK hP 0 rfl rfl 14 (by decide) (hts _ wd_760) (fun _ h9 => h9) rfl dc_Mo_marked_6 ?_
    refine kb_if_eq hx hb dc_Mo_marked_9 rfl (fun hc9 => ?_) (fun hc9 => ?_)
    · refine lv_iconst (v := nI 0) hx hb dc_Mo_marked_33 (by decide +kernel) ?_
      refine kn_top (y := kb_i false) (by decide +kernel) ?_
      exact kw_zret hx hb hr hlocks hP hD hS dc_Mo_marked_34 (by rw [hc9]; rfl) (rfl)
    · refine lv_aload_n hx hb dc_Mo_marked_12 rfl (lv_at hl 0 rfl) ?_
      refine lv_iload_n hx hb dc_Mo_marked_13 rfl (lv_at hl 1 rfl) ?_
      refine kr_call1 (va_runV (As := [.int (nI jx)]) (rest := []) ⟨hx, hb, hml, hown, hts⟩ (ct_Mo_isClause_any l D cI cZ _ o 0 mty x0 mat mfr mto mgd mrd x1 x2 x3 mhf mhp mcl mck mba mct x4 x5 x6 x7 x8 mst x9 x10 x11 x12 mtr mrs x13 x14 x15 x16 mwr x17 mfo (nI jx) (by omega)) (cwV 1 hts (kx_gV wd_992 wd_994 (kx_sel (q := (yn_Mo_isClause, 36)) (List.mem_append_right _ (List.mem_append_right _ (List.mem_of_getElem? (i := 3) rfl)))) wd_9 wd_995) rfl rfl rfl ⟨rfl, yd_Mo_isClause⟩ ⟨Nat.le_of_ble_eq_true rfl, Nat.le_of_ble_eq_true rfl⟩) (kp_V (q0 := 0) (ci := 10) hP hD hK hN [0] rfl rfl rfl rfl rfl) rfl rfl hl.1 rfl (lv_room (Nat.le_of_ble_eq_true rfl)) dc_Mo_marked_14 ⟨Nat.le_of_ble_eq_true rfl, Nat.le_of_ble_eq_true rfl⟩) ?_
      refine kb_if_eq hx hb dc_Mo_marked_17 rfl (fun hc17 => ?_) (fun hc17 => ?_)
      · have hx9 := of_decide_eq_false hc17
        refine lv_iconst (v := nI 0) hx hb dc_Mo_marked_33 (by decide +kernel) ?_
        refine kn_top (y := kb_i false) (by decide +kernel) ?_
        exact kw_zret hx hb hr hlocks hP hD hS dc_Mo_marked_34 (by rw [decide_eq_false hx9, Bool.and_false, Bool.false_and]) (rfl)
      · have hx9 := of_decide_eq_true hc17
        rw [hzx] at hx9
        refine lv_aload_n hx hb dc_Mo_marked_20 rfl (lv_at hl 0 rfl) ?_
        refine va_get (ci := 10) (v := .ref x8) (C := rn_Mo) (T := fd_Mo) (N := 36) hx hb hts in_Mo hown hK hP 0 rfl rfl 21 (by decide) (hts _ wd_767) (fun _ h9 => h9) rfl dc_Mo_marked_21 ?_
        refine lv_iload_n hx hb dc_Mo_marked_24 rfl (lv_at hl 1 rfl) ?_
        refine ka_bald (t := kb) hx hb hK hP 1 1 rfl rfl (j := jx) (by omega) (by omega) dc_Mo_marked_25 ?_
        refine kb_if_eq hx hb dc_Mo_marked_26 rfl (fun hc26 => ?_) (fun hc26 => ?_)
        · refine lv_iconst (v := nI 0) hx hb dc_Mo_marked_33 (by decide +kernel) ?_
          refine kn_top (y := kb_i false) (by decide +kernel) ?_
          exact kw_zret hx hb hr hlocks hP hD hS dc_Mo_marked_34 (by rw [hzx, hc26, Bool.and_false]) (rfl)
        · refine lv_iconst (v := nI 1) hx hb dc_Mo_marked_29 (by decide +kernel) ?_
          refine lv_goto hx hb dc_Mo_marked_30 rfl ?_
          refine kn_top (y := kb_i true) (by decide +kernel) ?_
          exact kw_zret hx hb hr hlocks hP hD hS dc_Mo_marked_34 (by rw [hzx, hc26, hc9, decide_eq_true hx9]; rfl) (rfl)

set_option maxHeartbeats 4000000 in
set_option maxRecDepth 100000 in
theorem ct_Mo_hints (l : Launch) (D : va_G) (cI cZ : ClassId) (sz : Nat) (o : Nat) (mth : Nat) (mty : Nat) (x0 : Nat) (mat : Nat) (mfr : Nat) (mto : Nat) (mgd : Bool) (mrd : Nat) (x1 : Nat) (x2 : Nat) (x3 : Nat) (mhf : Bool) (mhp : Bool) (mcl : Bool) (mck : Bool) (mba : Nat) (mct : Nat) (x4 : Nat) (x5 : Nat) (x6 : Nat) (x7 : Nat) (x8 : Nat) (mst : Nat) (x9 : Nat) (x10 : Nat) (x11 : Nat) (x12 : Nat) (mtr : Nat) (mrs : Nat) (x13 : Nat) (x14 : Nat) (x15 : Nat) (x16 : Nat) (mwr : Nat) (x17 : Nat) (mfo : Nat) (hc : Nat → Nat) (x : Int32) (hct : mct ≤ 32) : Met l yn_Mo_hints (Cond.code yn_Mo_hints bc_Mo_hints 2 (some .int) :: kx_all) ({ frames := 1, cells := 0, slots := 0, locals := 21 } : Room) (kp [.ref o, .int x] D cI cZ [mo_c o mth mty x0 mat mfr mto mgd mrd x1 x2 x3 mhf mhp mcl mck mba mct x4 x5 x6 x7 x8 mst x9 x10 x11 x12 mtr mrs x13 x14 x15 x16 mwr x17 mfo, ar_n cI x11 33 hc] sz) (kw_q (some (.int (nI (if mck = true ∧ 1 ≤ pt_num x ∧ pt_num x ≤ mct then hc (pt_num x) else 0)))) D kc_l [mo_c o 0 mty x0 mat mfr mto mgd mrd x1 x2 x3 mhf mhp mcl mck mba mct x4 x5 x6 x7 x8 mst x9 x10 x11 x12 mtr mrs x13 x14 x15 x16 mwr x17 mfo, ar_n cI x11 33 hc] (va_A [mo_c o mth mty x0 mat mfr mto mgd mrd x1 x2 x3 mhf mhp mcl mck mba mct x4 x5 x6 x7 x8 mst x9 x10 x11 x12 mtr mrs x13 x14 x15 x16 mwr x17 mfo, ar_n cI x11 33 hc] sz)) 0 0 (va_A [mo_c o mth mty x0 mat mfr mto mgd mrd x1 x2 x3 mhf mhp mcl mck mba mct x4 x5 x6 x7 x8 mst x9 x10 x11 x12 mtr mrs x13 x14 x15 x16 mwr x17 mfo, ar_n cI x11 33 hc] sz) := by
  refine kx_metW (by decide) (Nat.le_of_ble_eq_true rfl) ?_
  intro p e s m below meth c ls A hx hb hr hml hts hown hlocks hin hA hP hK hD hN hl hS
  have hown : s.vm.findClass rn_Mo = some m.cls := hown
  have hl : lv_has ls 2 [(0, .ref o), (1, .int x)] := hl
  rcases num_or x with ⟨hix, hzx⟩ | ⟨jx, hjx, rfl, hzx⟩
  · refine lv_aload_n hx hb dc_Mo_hints_0 rfl (lv_at hl 0 rfl) ?_
    refine lv_iconst (v := nI 0) hx hb dc_Mo_hints_1 (by decide +kernel) ?_
    refine va_put (ci := 10) (v := .int (nI 0)) (ty := .int) (C := rn_Mo) (T := fd_Mo) (N := 36) hx hb hts in_Mo ty_Mo tk_Mo nm_Mo hown hK hP hD hS 0 rfl rfl 0 (by decide) (hts _ wd_746) (fun _ h9 => h9) rfl (by decide +kernel) rfl rfl (Nat.le_of_ble_eq_true rfl) dc_Mo_hints_2 (fun H locs hP hD hS => ?_)
    have hP : va_P D kc_l [mo_c o 0 mty x0 mat mfr mto mgd mrd x1 x2 x3 mhf mhp mcl mck mba mct x4 x5 x6 x7 x8 mst x9 x10 x11 x12 mtr mrs x13 x14 x15 x16 mwr x17 mfo, ar_n cI x11 33 hc] H := hP
    have hD : va_D A [mo_c o 0 mty x0 mat mfr mto mgd mrd x1 x2 x3 mhf mhp mcl mck mba mct x4 x5 x6 x7 x8 mst x9 x10 x11 x12 mtr mrs x13 x14 x15 x16 mwr x17 mfo, ar_n cI x11 33 hc] := hD
    refine lv_aload_n hx hb dc_Mo_hints_5 rfl (lv_at hl 0 rfl) ?_
    refine va_get (ci := 10) (v := .int (kb_i mck)) (C := rn_Mo) (T := fd_Mo) (N := 36) hx hb hts in_Mo hown hK hP 0 rfl rfl 14 (by decide) (hts _ wd_760) (fun _ h9 => h9) rfl dc_Mo_hints_6 ?_
    refine kb_if_eq hx hb dc_Mo_hints_9 rfl (fun hc9 => ?_) (fun hc9 => ?_)
    · refine lv_iconst (v := nI 0) hx hb dc_Mo_hints_29 (by decide +kernel) ?_
      exact kw_iret hx hb hr hlocks hP hD hS dc_Mo_hints_30 (by rw [hzx, if_neg (fun q => by omega)]) (rfl)
    · refine lv_aload_n hx hb dc_Mo_hints_12 rfl (lv_at hl 0 rfl) ?_
      refine lv_iload_n hx hb dc_Mo_hints_13 rfl (lv_at hl 1 rfl) ?_
      refine kr_call1 (va_runV (As := [.int x]) (rest := []) ⟨hx, hb, hml, hown, hts⟩ (ct_Mo_isClause_any l D cI cZ _ o 0 mty x0 mat mfr mto mgd mrd x1 x2 x3 mhf mhp mcl mck mba mct x4 x5 x6 x7 x8 mst x9 x10 x11 x12 mtr mrs x13 x14 x15 x16 mwr x17 mfo x (by omega)) (cwV 1 hts (kx_gV wd_992 wd_994 (kx_sel (q := (yn_Mo_isClause, 36)) (List.mem_append_right _ (List.mem_append_right _ (List.mem_of_getElem? (i := 3) rfl)))) wd_9 wd_995) rfl rfl rfl ⟨rfl, yd_Mo_isClause⟩ ⟨Nat.le_of_ble_eq_true rfl, Nat.le_of_ble_eq_true rfl⟩) (kp_V (q0 := 0) (ci := 10) hP hD hK hN [0] rfl rfl rfl rfl rfl) rfl rfl hl.1 rfl (lv_room (Nat.le_of_ble_eq_true rfl)) dc_Mo_hints_14 ⟨Nat.le_of_ble_eq_true rfl, Nat.le_of_ble_eq_true rfl⟩) ?_
      refine kb_if_eq hx hb dc_Mo_hints_17 rfl (fun hc17 => ?_) (fun hc17 => ?_)
      · refine lv_iconst (v := nI 0) hx hb dc_Mo_hints_29 (by decide +kernel) ?_
        exact kw_iret hx hb hr hlocks hP hD hS dc_Mo_hints_30 (by rw [hzx, if_neg (fun q => by omega)]) (rfl)
      · exact absurd hc17 (by rw [hzx]; simp)
  · refine lv_aload_n hx hb dc_Mo_hints_0 rfl (lv_at hl 0 rfl) ?_
    refine lv_iconst (v := nI 0) hx hb dc_Mo_hints_1 (by decide +kernel) ?_
    refine va_put (ci := 10) (v := .int (nI 0)) (ty := .int) (C := rn_Mo) (T := fd_Mo) (N := 36) hx hb hts in_Mo ty_Mo tk_Mo nm_Mo hown hK hP hD hS 0 rfl rfl 0 (by decide) (hts _ wd_746) (fun _ h9 => h9) rfl (by decide +kernel) rfl rfl (Nat.le_of_ble_eq_true rfl) dc_Mo_hints_2 (fun H locs hP hD hS => ?_)
    have hP : va_P D kc_l [mo_c o 0 mty x0 mat mfr mto mgd mrd x1 x2 x3 mhf mhp mcl mck mba mct x4 x5 x6 x7 x8 mst x9 x10 x11 x12 mtr mrs x13 x14 x15 x16 mwr x17 mfo, ar_n cI x11 33 hc] H := hP
    have hD : va_D A [mo_c o 0 mty x0 mat mfr mto mgd mrd x1 x2 x3 mhf mhp mcl mck mba mct x4 x5 x6 x7 x8 mst x9 x10 x11 x12 mtr mrs x13 x14 x15 x16 mwr x17 mfo, ar_n cI x11 33 hc] := hD
    refine lv_aload_n hx hb dc_Mo_hints_5 rfl (lv_at hl 0 rfl) ?_
    refine va_get (ci := 10) (v := .int (kb_i mck)) (C := rn_Mo) (T := fd_Mo) (N := 36) hx hb hts in_Mo hown hK hP 0 rfl rfl 14 (by decide) (hts _ wd_760) (fun _ h9 => h9) rfl dc_Mo_hints_6 ?_
    refine kb_if_eq hx hb dc_Mo_hints_9 rfl (fun hc9 => ?_) (fun hc9 => ?_)
    · refine lv_iconst (v := nI 0) hx hb dc_Mo_hints_29 (by decide +kernel) ?_
      exact kw_iret hx hb hr hlocks hP hD hS dc_Mo_hints_30 (by rw [if_neg (fun q => by rw [hc9] at q; exact absurd q.1 (by decide))]) (rfl)
    · refine lv_aload_n hx hb dc_Mo_hints_12 rfl (lv_at hl 0 rfl) ?_
      refine lv_iload_n hx hb dc_Mo_hints_13 rfl (lv_at hl 1 rfl) ?_
      refine kr_call1 (va_runV (As := [.int (nI jx)]) (rest := []) ⟨hx, hb, hml, hown, hts⟩ (ct_Mo_isClause_any l D cI cZ _ o 0 mty x0 mat mfr mto mgd mrd x1 x2 x3 mhf mhp mcl mck mba mct x4 x5 x6 x7 x8 mst x9 x10 x11 x12 mtr mrs x13 x14 x15 x16 mwr x17 mfo (nI jx) (by omega)) (cwV 1 hts (kx_gV wd_992 wd_994 (kx_sel (q := (yn_Mo_isClause, 36)) (List.mem_append_right _ (List.mem_append_right _ (List.mem_of_getElem? (i := 3) rfl)))) wd_9 wd_995) rfl rfl rfl ⟨rfl, yd_Mo_isClause⟩ ⟨Nat.le_of_ble_eq_true rfl, Nat.le_of_ble_eq_true rfl⟩) (kp_V (q0 := 0) (ci := 10) hP hD hK hN [0] rfl rfl rfl rfl rfl) rfl rfl hl.1 rfl (lv_room (Nat.le_of_ble_eq_true rfl)) dc_Mo_hints_14 ⟨Nat.le_of_ble_eq_true rfl, Nat.le_of_ble_eq_true rfl⟩) ?_
      refine kb_if_eq hx hb dc_Mo_hints_17 rfl (fun hc17 => ?_) (fun hc17 => ?_)
      · have hx9 := of_decide_eq_false hc17
        refine lv_iconst (v := nI 0) hx hb dc_Mo_hints_29 (by decide +kernel) ?_
        exact kw_iret hx hb hr hlocks hP hD hS dc_Mo_hints_30 (by rw [if_neg (fun q => hx9 q.2)]) (rfl)
      · have hx9 := of_decide_eq_true hc17
        rw [hzx] at hx9
        refine lv_aload_n hx hb dc_Mo_hints_20 rfl (lv_at hl 0 rfl) ?_
        refine va_get (ci := 10) (v := .ref x11) (C := rn_Mo) (T := fd_Mo) (N := 36) hx hb hts in_Mo hown hK hP 0 rfl rfl 25 (by decide) (hts _ wd_771) (fun _ h9 => h9) rfl dc_Mo_hints_21 ?_
        refine lv_iload_n hx hb dc_Mo_hints_24 rfl (lv_at hl 1 rfl) ?_
        refine ka_nald (t := hc) hx hb hK hP 1 0 rfl rfl (j := jx) (by omega) (by omega) dc_Mo_hints_25 ?_
        refine lv_goto hx hb dc_Mo_hints_26 rfl ?_
        exact kw_iret hx hb hr hlocks hP hD hS dc_Mo_hints_30 (by rw [hzx, if_pos ⟨hc9, hx9⟩]) (rfl)

set_option maxHeartbeats 4000000 in
set_option maxRecDepth 100000 in
theorem ct_Mo_isHint (l : Launch) (D : va_G) (cI cZ : ClassId) (sz : Nat) (o : Nat) (mth : Nat) (mty : Nat) (x0 : Nat) (mat : Nat) (mfr : Nat) (mto : Nat) (mgd : Bool) (mrd : Nat) (x1 : Nat) (x2 : Nat) (x3 : Nat) (mhf : Bool) (mhp : Bool) (mcl : Bool) (mck : Bool) (mba : Nat) (mct : Nat) (x4 : Nat) (x5 : Nat) (x6 : Nat) (x7 : Nat) (x8 : Nat) (mst : Nat) (x9 : Nat) (x10 : Nat) (x11 : Nat) (x12 : Nat) (mtr : Nat) (mrs : Nat) (x13 : Nat) (x14 : Nat) (x15 : Nat) (x16 : Nat) (mwr : Nat) (x17 : Nat) (mfo : Nat) (hc : Nat → Nat) (x : Int32) (y : Int32) (hct : mct ≤ 32) (hcb : ∀ j, hc j ≤ 400) : Met l yn_Mo_isHint (Cond.code yn_Mo_isHint bc_Mo_isHint 3 (some .boolean) :: kx_all) ({ frames := 1, cells := 0, slots := 0, locals := 21 } : Room) (kp [.ref o, .int x, .int y] D cI cZ [mo_c o mth mty x0 mat mfr mto mgd mrd x1 x2 x3 mhf mhp mcl mck mba mct x4 x5 x6 x7 x8 mst x9 x10 x11 x12 mtr mrs x13 x14 x15 x16 mwr x17 mfo, ar_n cI x11 33 hc] sz) (kr_q (some (.int (kb_i (decide ((mck = true ∧ 1 ≤ pt_num x ∧ pt_num x ≤ mct) ∧ ¬ y < 0 ∧ pt_num y < hc (pt_num x))))))) 0 0 (fun _ => False) := by
  refine kx_met (by decide) (Nat.le_of_ble_eq_true rfl) ?_
  intro p e s m below meth c ls hx hb hr hml hts hown hlocks hin hsz hP hK hD hN hl
  have hown : s.vm.findClass rn_Mo = some m.cls := hown
  have hl : lv_has ls 3 [(0, .ref o), (1, .int x), (2, .int y)] := hl
  rcases num_or x with ⟨hix, hzx⟩ | ⟨jx, hjx, rfl, hzx⟩
  · rcases num_or y with ⟨hiy, hzy⟩ | ⟨jy, hjy, rfl, hzy⟩
    · refine lv_aload_n hx hb dc_Mo_isHint_0 rfl (lv_at hl 0 rfl) ?_
      refine va_get (ci := 10) (v := .int (kb_i mck)) (C := rn_Mo) (T := fd_Mo) (N := 36) hx hb hts in_Mo hown hK hP 0 rfl rfl 14 (by decide) (hts _ wd_760) (fun _ h9 => h9) rfl dc_Mo_isHint_1 ?_
      refine kb_if_eq hx hb dc_Mo_isHint_4 rfl (fun hc4 => ?_) (fun hc4 => ?_)
      · refine lv_iconst (v := nI 0) hx hb dc_Mo_isHint_33 (by decide +kernel) ?_
        refine kn_top (y := kb_i false) (by decide +kernel) ?_
        exact kr_zret hx hb hr hlocks dc_Mo_isHint_34 ((decide_eq_false (fun q => by rw [hzx] at q; omega)).symm)
      · refine lv_aload_n hx hb dc_Mo_isHint_7 rfl (lv_at hl 0 rfl) ?_
        refine lv_iload_n hx hb dc_Mo_isHint_8 rfl (lv_at hl 1 rfl) ?_
        refine kr_call1 (va_runV (As := [.int x]) (rest := []) ⟨hx, hb, hml, hown, hts⟩ (ct_Mo_isClause_any l D cI cZ _ o mth mty x0 mat mfr mto mgd mrd x1 x2 x3 mhf mhp mcl mck mba mct x4 x5 x6 x7 x8 mst x9 x10 x11 x12 mtr mrs x13 x14 x15 x16 mwr x17 mfo x (by omega)) (cwV 1 hts (kx_gV wd_992 wd_994 (kx_sel (q := (yn_Mo_isClause, 36)) (List.mem_append_right _ (List.mem_append_right _ (List.mem_of_getElem? (i := 3) rfl)))) wd_9 wd_995) rfl rfl rfl ⟨rfl, yd_Mo_isClause⟩ ⟨Nat.le_of_ble_eq_true rfl, Nat.le_of_ble_eq_true rfl⟩) (kp_V (q0 := 0) (ci := 10) hP hD hK hN [0] rfl rfl rfl rfl rfl) rfl rfl hl.1 rfl (lv_room (Nat.le_of_ble_eq_true rfl)) dc_Mo_isHint_9 ⟨Nat.le_of_ble_eq_true rfl, Nat.le_of_ble_eq_true rfl⟩) ?_
        refine kb_if_eq hx hb dc_Mo_isHint_12 rfl (fun hc12 => ?_) (fun hc12 => ?_)
        · refine lv_iconst (v := nI 0) hx hb dc_Mo_isHint_33 (by decide +kernel) ?_
          refine kn_top (y := kb_i false) (by decide +kernel) ?_
          exact kr_zret hx hb hr hlocks dc_Mo_isHint_34 ((decide_eq_false (fun q => by rw [hzx] at q; omega)).symm)
        · exact absurd hc12 (by rw [hzx]; simp)
    · refine lv_aload_n hx hb dc_Mo_isHint_0 rfl (lv_at hl 0 rfl) ?_
      refine va_get (ci := 10) (v := .int (kb_i mck)) (C := rn_Mo) (T := fd_Mo) (N := 36) hx hb hts in_Mo hown hK hP 0 rfl rfl 14 (by decide) (hts _ wd_760) (fun _ h9 => h9) rfl dc_Mo_isHint_1 ?_
      refine kb_if_eq hx hb dc_Mo_isHint_4 rfl (fun hc4 => ?_) (fun hc4 => ?_)
      · refine lv_iconst (v := nI 0) hx hb dc_Mo_isHint_33 (by decide +kernel) ?_
        refine kn_top (y := kb_i false) (by decide +kernel) ?_
        exact kr_zret hx hb hr hlocks dc_Mo_isHint_34 ((decide_eq_false (fun q => by rw [hzx] at q; omega)).symm)
      · refine lv_aload_n hx hb dc_Mo_isHint_7 rfl (lv_at hl 0 rfl) ?_
        refine lv_iload_n hx hb dc_Mo_isHint_8 rfl (lv_at hl 1 rfl) ?_
        refine kr_call1 (va_runV (As := [.int x]) (rest := []) ⟨hx, hb, hml, hown, hts⟩ (ct_Mo_isClause_any l D cI cZ _ o mth mty x0 mat mfr mto mgd mrd x1 x2 x3 mhf mhp mcl mck mba mct x4 x5 x6 x7 x8 mst x9 x10 x11 x12 mtr mrs x13 x14 x15 x16 mwr x17 mfo x (by omega)) (cwV 1 hts (kx_gV wd_992 wd_994 (kx_sel (q := (yn_Mo_isClause, 36)) (List.mem_append_right _ (List.mem_append_right _ (List.mem_of_getElem? (i := 3) rfl)))) wd_9 wd_995) rfl rfl rfl ⟨rfl, yd_Mo_isClause⟩ ⟨Nat.le_of_ble_eq_true rfl, Nat.le_of_ble_eq_true rfl⟩) (kp_V (q0 := 0) (ci := 10) hP hD hK hN [0] rfl rfl rfl rfl rfl) rfl rfl hl.1 rfl (lv_room (Nat.le_of_ble_eq_true rfl)) dc_Mo_isHint_9 ⟨Nat.le_of_ble_eq_true rfl, Nat.le_of_ble_eq_true rfl⟩) ?_
        refine kb_if_eq hx hb dc_Mo_isHint_12 rfl (fun hc12 => ?_) (fun hc12 => ?_)
        · refine lv_iconst (v := nI 0) hx hb dc_Mo_isHint_33 (by decide +kernel) ?_
          refine kn_top (y := kb_i false) (by decide +kernel) ?_
          exact kr_zret hx hb hr hlocks dc_Mo_isHint_34 ((decide_eq_false (fun q => by rw [hzx] at q; omega)).symm)
        · exact absurd hc12 (by rw [hzx]; simp)
  · rcases num_or y with ⟨hiy, hzy⟩ | ⟨jy, hjy, rfl, hzy⟩
    · refine lv_aload_n hx hb dc_Mo_isHint_0 rfl (lv_at hl 0 rfl) ?_
      refine va_get (ci := 10) (v := .int (kb_i mck)) (C := rn_Mo) (T := fd_Mo) (N := 36) hx hb hts in_Mo hown hK hP 0 rfl rfl 14 (by decide) (hts _ wd_760) (fun _ h9 => h9) rfl dc_Mo_isHint_1 ?_
      refine kb_if_eq hx hb dc_Mo_isHint_4 rfl (fun hc4 => ?_) (fun hc4 => ?_)
      · refine lv_iconst (v := nI 0) hx hb dc_Mo_isHint_33 (by decide +kernel) ?_
        refine kn_top (y := kb_i false) (by decide +kernel) ?_
        exact kr_zret hx hb hr hlocks dc_Mo_isHint_34 ((decide_eq_false (fun q => by rw [hc4] at q; exact absurd q.1.1 (by decide))).symm)
      · refine lv_aload_n hx hb dc_Mo_isHint_7 rfl (lv_at hl 0 rfl) ?_
        refine lv_iload_n hx hb dc_Mo_isHint_8 rfl (lv_at hl 1 rfl) ?_
        refine kr_call1 (va_runV (As := [.int (nI jx)]) (rest := []) ⟨hx, hb, hml, hown, hts⟩ (ct_Mo_isClause_any l D cI cZ _ o mth mty x0 mat mfr mto mgd mrd x1 x2 x3 mhf mhp mcl mck mba mct x4 x5 x6 x7 x8 mst x9 x10 x11 x12 mtr mrs x13 x14 x15 x16 mwr x17 mfo (nI jx) (by omega)) (cwV 1 hts (kx_gV wd_992 wd_994 (kx_sel (q := (yn_Mo_isClause, 36)) (List.mem_append_right _ (List.mem_append_right _ (List.mem_of_getElem? (i := 3) rfl)))) wd_9 wd_995) rfl rfl rfl ⟨rfl, yd_Mo_isClause⟩ ⟨Nat.le_of_ble_eq_true rfl, Nat.le_of_ble_eq_true rfl⟩) (kp_V (q0 := 0) (ci := 10) hP hD hK hN [0] rfl rfl rfl rfl rfl) rfl rfl hl.1 rfl (lv_room (Nat.le_of_ble_eq_true rfl)) dc_Mo_isHint_9 ⟨Nat.le_of_ble_eq_true rfl, Nat.le_of_ble_eq_true rfl⟩) ?_
        refine kb_if_eq hx hb dc_Mo_isHint_12 rfl (fun hc12 => ?_) (fun hc12 => ?_)
        · have hx9 := of_decide_eq_false hc12
          refine lv_iconst (v := nI 0) hx hb dc_Mo_isHint_33 (by decide +kernel) ?_
          refine kn_top (y := kb_i false) (by decide +kernel) ?_
          exact kr_zret hx hb hr hlocks dc_Mo_isHint_34 ((decide_eq_false (fun q => hx9 q.1.2)).symm)
        · have hx9 := of_decide_eq_true hc12
          rw [hzx] at hx9
          refine lv_iload_n hx hb dc_Mo_isHint_15 rfl (lv_at hl 2 rfl) ?_
          refine lv_if_lt hx hb dc_Mo_isHint_16 rfl (fun hc16 => ?_) (fun hc16 => ?_)
          · refine lv_iconst (v := nI 0) hx hb dc_Mo_isHint_33 (by decide +kernel) ?_
            refine kn_top (y := kb_i false) (by decide +kernel) ?_
            exact kr_zret hx hb hr hlocks dc_Mo_isHint_34 ((decide_eq_false (fun q => q.2.1 hiy)).symm)
          · exact absurd hiy hc16
    · refine lv_aload_n hx hb dc_Mo_isHint_0 rfl (lv_at hl 0 rfl) ?_
      refine va_get (ci := 10) (v := .int (kb_i mck)) (C := rn_Mo) (T := fd_Mo) (N := 36) hx hb hts in_Mo hown hK hP 0 rfl rfl 14 (by decide) (hts _ wd_760) (fun _ h9 => h9) rfl dc_Mo_isHint_1 ?_
      refine kb_if_eq hx hb dc_Mo_isHint_4 rfl (fun hc4 => ?_) (fun hc4 => ?_)
      · refine lv_iconst (v := nI 0) hx hb dc_Mo_isHint_33 (by decide +kernel) ?_
        refine kn_top (y := kb_i false) (by decide +kernel) ?_
        exact kr_zret hx hb hr hlocks dc_Mo_isHint_34 ((decide_eq_false (fun q => by rw [hc4] at q; exact absurd q.1.1 (by decide))).symm)
      · have hc4_ := hc4
        refine lv_aload_n hx hb dc_Mo_isHint_7 rfl (lv_at hl 0 rfl) ?_
        refine lv_iload_n hx hb dc_Mo_isHint_8 rfl (lv_at hl 1 rfl) ?_
        refine kr_call1 (va_runV (As := [.int (nI jx)]) (rest := []) ⟨hx, hb, hml, hown, hts⟩ (ct_Mo_isClause_any l D cI cZ _ o mth mty x0 mat mfr mto mgd mrd x1 x2 x3 mhf mhp mcl mck mba mct x4 x5 x6 x7 x8 mst x9 x10 x11 x12 mtr mrs x13 x14 x15 x16 mwr x17 mfo (nI jx) (by omega)) (cwV 1 hts (kx_gV wd_992 wd_994 (kx_sel (q := (yn_Mo_isClause, 36)) (List.mem_append_right _ (List.mem_append_right _ (List.mem_of_getElem? (i := 3) rfl)))) wd_9 wd_995) rfl rfl rfl ⟨rfl, yd_Mo_isClause⟩ ⟨Nat.le_of_ble_eq_true rfl, Nat.le_of_ble_eq_true rfl⟩) (kp_V (q0 := 0) (ci := 10) hP hD hK hN [0] rfl rfl rfl rfl rfl) rfl rfl hl.1 rfl (lv_room (Nat.le_of_ble_eq_true rfl)) dc_Mo_isHint_9 ⟨Nat.le_of_ble_eq_true rfl, Nat.le_of_ble_eq_true rfl⟩) ?_
        refine kb_if_eq hx hb dc_Mo_isHint_12 rfl (fun hc12 => ?_) (fun hc12 => ?_)
        · have hx9 := of_decide_eq_false hc12
          refine lv_iconst (v := nI 0) hx hb dc_Mo_isHint_33 (by decide +kernel) ?_
          refine kn_top (y := kb_i false) (by decide +kernel) ?_
          exact kr_zret hx hb hr hlocks dc_Mo_isHint_34 ((decide_eq_false (fun q => hx9 q.1.2)).symm)
        · have hx9 := of_decide_eq_true hc12
          rw [hzx] at hx9
          refine lv_iload_n hx hb dc_Mo_isHint_15 rfl (lv_at hl 2 rfl) ?_
          refine lv_if_lt hx hb dc_Mo_isHint_16 rfl (fun hc16 => ?_) (fun hc16 => ?_)
          · exact absurd hc16 (nI_p hjy)
          · refine lv_iload_n hx hb dc_Mo_isHint_19 rfl (lv_at hl 2 rfl) ?_
            refine lv_aload_n hx hb dc_Mo_isHint_20 rfl (lv_at hl 0 rfl) ?_
            refine va_get (ci := 10) (v := .ref x11) (C := rn_Mo) (T := fd_Mo) (N := 36) hx hb hts in_Mo hown hK hP 0 rfl rfl 25 (by decide) (hts _ wd_771) (fun _ h9 => h9) rfl dc_Mo_isHint_21 ?_
            refine lv_iload_n hx hb dc_Mo_isHint_24 rfl (lv_at hl 1 rfl) ?_
            refine ka_nald (t := hc) hx hb hK hP 1 0 rfl rfl (j := jx) (by omega) (by omega) dc_Mo_isHint_25 ?_
            refine kn_icmp_ge hx hb (by omega) (Nat.lt_of_le_of_lt (hcb jx) (by decide)) dc_Mo_isHint_26 rfl (fun hc26 => ?_) (fun hc26 => ?_)
            · refine lv_iconst (v := nI 0) hx hb dc_Mo_isHint_33 (by decide +kernel) ?_
              refine kn_top (y := kb_i false) (by decide +kernel) ?_
              exact kr_zret hx hb hr hlocks dc_Mo_isHint_34 ((decide_eq_false (fun q => by rw [hzx, hzy] at q; omega)).symm)
            · refine lv_iconst (v := nI 1) hx hb dc_Mo_isHint_29 (by decide +kernel) ?_
              refine lv_goto hx hb dc_Mo_isHint_30 rfl ?_
              refine kn_top (y := kb_i true) (by decide +kernel) ?_
              exact kr_zret hx hb hr hlocks dc_Mo_isHint_34 ((decide_eq_true (by rw [hzx, hzy]; exact ⟨⟨hc4_, hx9⟩, nI_p hjy, hc26⟩)).symm)

set_option maxHeartbeats 4000000 in
set_option maxRecDepth 100000 in
theorem ct_Mo_hint (l : Launch) (D : va_G) (cI cZ : ClassId) (sz : Nat) (o : Nat) (mth : Nat) (mty : Nat) (x0 : Nat) (mat : Nat) (mfr : Nat) (mto : Nat) (mgd : Bool) (mrd : Nat) (x1 : Nat) (x2 : Nat) (x3 : Nat) (mhf : Bool) (mhp : Bool) (mcl : Bool) (mck : Bool) (mba : Nat) (mct : Nat) (x4 : Nat) (x5 : Nat) (x6 : Nat) (x7 : Nat) (x8 : Nat) (mst : Nat) (x9 : Nat) (x10 : Nat) (x11 : Nat) (x12 : Nat) (mtr : Nat) (mrs : Nat) (x13 : Nat) (x14 : Nat) (x15 : Nat) (x16 : Nat) (mwr : Nat) (x17 : Nat) (mfo : Nat) (hc : Nat → Nat) (hh : Nat → Int32) (x : Int32) (y : Int32) (hct : mct ≤ 32) (hcb : ∀ j, hc j ≤ 400) (hbs : ∀ j, mck = true → 1 ≤ j → j ≤ mct → 0 < hc j → mba < j ∧ j ≤ mba + 16) : Met l yn_Mo_hint (Cond.code yn_Mo_hint bc_Mo_hint 3 (some .int) :: kx_all) ({ frames := 2, cells := 0, slots := 0, locals := 43 } : Room) (kp [.ref o, .int x, .int y] D cI cZ [mo_c o mth mty x0 mat mfr mto mgd mrd x1 x2 x3 mhf mhp mcl mck mba mct x4 x5 x6 x7 x8 mst x9 x10 x11 x12 mtr mrs x13 x14 x15 x16 mwr x17 mfo, ar_n cI x11 33 hc, ar_i cI x12 6400 hh] sz) (kw_q (some (.int (if (mck = true ∧ 1 ≤ pt_num x ∧ pt_num x ≤ mct) ∧ ¬ y < 0 ∧ pt_num y < hc (pt_num x) then hh (400 * (pt_num x - mba - 1) + pt_num y) else 0))) D kc_l [mo_c o 0 mty x0 mat mfr mto mgd mrd x1 x2 x3 mhf mhp mcl mck mba mct x4 x5 x6 x7 x8 mst x9 x10 x11 x12 mtr mrs x13 x14 x15 x16 mwr x17 mfo, ar_n cI x11 33 hc, ar_i cI x12 6400 hh] (va_A [mo_c o mth mty x0 mat mfr mto mgd mrd x1 x2 x3 mhf mhp mcl mck mba mct x4 x5 x6 x7 x8 mst x9 x10 x11 x12 mtr mrs x13 x14 x15 x16 mwr x17 mfo, ar_n cI x11 33 hc, ar_i cI x12 6400 hh] sz)) 0 0 (va_A [mo_c o mth mty x0 mat mfr mto mgd mrd x1 x2 x3 mhf mhp mcl mck mba mct x4 x5 x6 x7 x8 mst x9 x10 x11 x12 mtr mrs x13 x14 x15 x16 mwr x17 mfo, ar_n cI x11 33 hc, ar_i cI x12 6400 hh] sz) := by
  refine kx_metW (by decide) (Nat.le_of_ble_eq_true rfl) ?_
  intro p e s m below meth c ls A hx hb hr hml hts hown hlocks hin hA hP hK hD hN hl hS
  have hown : s.vm.findClass rn_Mo = some m.cls := hown
  have hl : lv_has ls 3 [(0, .ref o), (1, .int x), (2, .int y)] := hl
  rcases num_or x with ⟨hix, hzx⟩ | ⟨jx, hjx, rfl, hzx⟩
  · rcases num_or y with ⟨hiy, hzy⟩ | ⟨jy, hjy, rfl, hzy⟩
    · refine lv_aload_n hx hb dc_Mo_hint_0 rfl (lv_at hl 0 rfl) ?_
      refine lv_iconst (v := nI 0) hx hb dc_Mo_hint_1 (by decide +kernel) ?_
      refine va_put (ci := 10) (v := .int (nI 0)) (ty := .int) (C := rn_Mo) (T := fd_Mo) (N := 36) hx hb hts in_Mo ty_Mo tk_Mo nm_Mo hown hK hP hD hS 0 rfl rfl 0 (by decide) (hts _ wd_746) (fun _ h9 => h9) rfl (by decide +kernel) rfl rfl (Nat.le_of_ble_eq_true rfl) dc_Mo_hint_2 (fun H locs hP hD hS => ?_)
      have hP : va_P D kc_l [mo_c o 0 mty x0 mat mfr mto mgd mrd x1 x2 x3 mhf mhp mcl mck mba mct x4 x5 x6 x7 x8 mst x9 x10 x11 x12 mtr mrs x13 x14 x15 x16 mwr x17 mfo, ar_n cI x11 33 hc, ar_i cI x12 6400 hh] H := hP
      have hD : va_D A [mo_c o 0 mty x0 mat mfr mto mgd mrd x1 x2 x3 mhf mhp mcl mck mba mct x4 x5 x6 x7 x8 mst x9 x10 x11 x12 mtr mrs x13 x14 x15 x16 mwr x17 mfo, ar_n cI x11 33 hc, ar_i cI x12 6400 hh] := hD
      refine lv_aload_n hx hb dc_Mo_hint_5 rfl (lv_at hl 0 rfl) ?_
      refine lv_iload_n hx hb dc_Mo_hint_6 rfl (lv_at hl 1 rfl) ?_
      refine lv_iload_n hx hb dc_Mo_hint_7 rfl (lv_at hl 2 rfl) ?_
      refine kr_call1 (va_runV (As := [.int x, .int y]) (rest := []) ⟨hx, hb, hml, hown, hts⟩ (ct_Mo_isHint l D cI cZ _ o 0 mty x0 mat mfr mto mgd mrd x1 x2 x3 mhf mhp mcl mck mba mct x4 x5 x6 x7 x8 mst x9 x10 x11 x12 mtr mrs x13 x14 x15 x16 mwr x17 mfo hc x y (hct) (hcb)) (cwV 2 hts (kx_gV wd_1016 wd_1018 (kx_sel (q := (yn_Mo_isHint, 36)) (List.mem_append_right _ (List.mem_append_right _ (List.mem_of_getElem? (i := 4) rfl)))) wd_9 wd_1019) rfl rfl rfl ⟨rfl, yd_Mo_isHint⟩ ⟨Nat.le_of_ble_eq_true rfl, Nat.le_of_ble_eq_true rfl⟩) (kp_V (q0 := 0) (ci := 10) hP hD hK hN [0, 1] rfl rfl rfl rfl rfl) rfl rfl hl.1 rfl (lv_room (Nat.le_of_ble_eq_true rfl)) dc_Mo_hint_8 ⟨Nat.le_of_ble_eq_true rfl, Nat.le_of_ble_eq_true rfl⟩) ?_
      refine kb_if_eq hx hb dc_Mo_hint_11 rfl (fun hc11 => ?_) (fun hc11 => ?_)
      · refine lv_iconst (v := nI 0) hx hb dc_Mo_hint_36 (by decide +kernel) ?_
        exact kw_iret hx hb hr hlocks hP hD hS dc_Mo_hint_37 (by rw [if_neg (fun q => by rw [hzx] at q; omega)]; rfl) (rfl)
      · exact absurd (of_decide_eq_true hc11) (fun q => by rw [hzx] at q; omega)
    · refine lv_aload_n hx hb dc_Mo_hint_0 rfl (lv_at hl 0 rfl) ?_
      refine lv_iconst (v := nI 0) hx hb dc_Mo_hint_1 (by decide +kernel) ?_
      refine va_put (ci := 10) (v := .int (nI 0)) (ty := .int) (C := rn_Mo) (T := fd_Mo) (N := 36) hx hb hts in_Mo ty_Mo tk_Mo nm_Mo hown hK hP hD hS 0 rfl rfl 0 (by decide) (hts _ wd_746) (fun _ h9 => h9) rfl (by decide +kernel) rfl rfl (Nat.le_of_ble_eq_true rfl) dc_Mo_hint_2 (fun H locs hP hD hS => ?_)
      have hP : va_P D kc_l [mo_c o 0 mty x0 mat mfr mto mgd mrd x1 x2 x3 mhf mhp mcl mck mba mct x4 x5 x6 x7 x8 mst x9 x10 x11 x12 mtr mrs x13 x14 x15 x16 mwr x17 mfo, ar_n cI x11 33 hc, ar_i cI x12 6400 hh] H := hP
      have hD : va_D A [mo_c o 0 mty x0 mat mfr mto mgd mrd x1 x2 x3 mhf mhp mcl mck mba mct x4 x5 x6 x7 x8 mst x9 x10 x11 x12 mtr mrs x13 x14 x15 x16 mwr x17 mfo, ar_n cI x11 33 hc, ar_i cI x12 6400 hh] := hD
      refine lv_aload_n hx hb dc_Mo_hint_5 rfl (lv_at hl 0 rfl) ?_
      refine lv_iload_n hx hb dc_Mo_hint_6 rfl (lv_at hl 1 rfl) ?_
      refine lv_iload_n hx hb dc_Mo_hint_7 rfl (lv_at hl 2 rfl) ?_
      refine kr_call1 (va_runV (As := [.int x, .int (nI jy)]) (rest := []) ⟨hx, hb, hml, hown, hts⟩ (ct_Mo_isHint l D cI cZ _ o 0 mty x0 mat mfr mto mgd mrd x1 x2 x3 mhf mhp mcl mck mba mct x4 x5 x6 x7 x8 mst x9 x10 x11 x12 mtr mrs x13 x14 x15 x16 mwr x17 mfo hc x (nI jy) (hct) (hcb)) (cwV 2 hts (kx_gV wd_1016 wd_1018 (kx_sel (q := (yn_Mo_isHint, 36)) (List.mem_append_right _ (List.mem_append_right _ (List.mem_of_getElem? (i := 4) rfl)))) wd_9 wd_1019) rfl rfl rfl ⟨rfl, yd_Mo_isHint⟩ ⟨Nat.le_of_ble_eq_true rfl, Nat.le_of_ble_eq_true rfl⟩) (kp_V (q0 := 0) (ci := 10) hP hD hK hN [0, 1] rfl rfl rfl rfl rfl) rfl rfl hl.1 rfl (lv_room (Nat.le_of_ble_eq_true rfl)) dc_Mo_hint_8 ⟨Nat.le_of_ble_eq_true rfl, Nat.le_of_ble_eq_true rfl⟩) ?_
      refine kb_if_eq hx hb dc_Mo_hint_11 rfl (fun hc11 => ?_) (fun hc11 => ?_)
      · refine lv_iconst (v := nI 0) hx hb dc_Mo_hint_36 (by decide +kernel) ?_
        exact kw_iret hx hb hr hlocks hP hD hS dc_Mo_hint_37 (by rw [if_neg (fun q => by rw [hzx] at q; omega)]; rfl) (rfl)
      · exact absurd (of_decide_eq_true hc11) (fun q => by rw [hzx] at q; omega)
  · rcases num_or y with ⟨hiy, hzy⟩ | ⟨jy, hjy, rfl, hzy⟩
    · refine lv_aload_n hx hb dc_Mo_hint_0 rfl (lv_at hl 0 rfl) ?_
      refine lv_iconst (v := nI 0) hx hb dc_Mo_hint_1 (by decide +kernel) ?_
      refine va_put (ci := 10) (v := .int (nI 0)) (ty := .int) (C := rn_Mo) (T := fd_Mo) (N := 36) hx hb hts in_Mo ty_Mo tk_Mo nm_Mo hown hK hP hD hS 0 rfl rfl 0 (by decide) (hts _ wd_746) (fun _ h9 => h9) rfl (by decide +kernel) rfl rfl (Nat.le_of_ble_eq_true rfl) dc_Mo_hint_2 (fun H locs hP hD hS => ?_)
      have hP : va_P D kc_l [mo_c o 0 mty x0 mat mfr mto mgd mrd x1 x2 x3 mhf mhp mcl mck mba mct x4 x5 x6 x7 x8 mst x9 x10 x11 x12 mtr mrs x13 x14 x15 x16 mwr x17 mfo, ar_n cI x11 33 hc, ar_i cI x12 6400 hh] H := hP
      have hD : va_D A [mo_c o 0 mty x0 mat mfr mto mgd mrd x1 x2 x3 mhf mhp mcl mck mba mct x4 x5 x6 x7 x8 mst x9 x10 x11 x12 mtr mrs x13 x14 x15 x16 mwr x17 mfo, ar_n cI x11 33 hc, ar_i cI x12 6400 hh] := hD
      refine lv_aload_n hx hb dc_Mo_hint_5 rfl (lv_at hl 0 rfl) ?_
      refine lv_iload_n hx hb dc_Mo_hint_6 rfl (lv_at hl 1 rfl) ?_
      refine lv_iload_n hx hb dc_Mo_hint_7 rfl (lv_at hl 2 rfl) ?_
      refine kr_call1 (va_runV (As := [.int (nI jx), .int y]) (rest := []) ⟨hx, hb, hml, hown, hts⟩ (ct_Mo_isHint l D cI cZ _ o 0 mty x0 mat mfr mto mgd mrd x1 x2 x3 mhf mhp mcl mck mba mct x4 x5 x6 x7 x8 mst x9 x10 x11 x12 mtr mrs x13 x14 x15 x16 mwr x17 mfo hc (nI jx) y (hct) (hcb)) (cwV 2 hts (kx_gV wd_1016 wd_1018 (kx_sel (q := (yn_Mo_isHint, 36)) (List.mem_append_right _ (List.mem_append_right _ (List.mem_of_getElem? (i := 4) rfl)))) wd_9 wd_1019) rfl rfl rfl ⟨rfl, yd_Mo_isHint⟩ ⟨Nat.le_of_ble_eq_true rfl, Nat.le_of_ble_eq_true rfl⟩) (kp_V (q0 := 0) (ci := 10) hP hD hK hN [0, 1] rfl rfl rfl rfl rfl) rfl rfl hl.1 rfl (lv_room (Nat.le_of_ble_eq_true rfl)) dc_Mo_hint_8 ⟨Nat.le_of_ble_eq_true rfl, Nat.le_of_ble_eq_true rfl⟩) ?_
      refine kb_if_eq hx hb dc_Mo_hint_11 rfl (fun hc11 => ?_) (fun hc11 => ?_)
      · refine lv_iconst (v := nI 0) hx hb dc_Mo_hint_36 (by decide +kernel) ?_
        exact kw_iret hx hb hr hlocks hP hD hS dc_Mo_hint_37 (by rw [if_neg (fun q => by exact q.2.1 hiy)]; rfl) (rfl)
      · exact absurd (of_decide_eq_true hc11) (fun q => by exact q.2.1 hiy)
    · refine lv_aload_n hx hb dc_Mo_hint_0 rfl (lv_at hl 0 rfl) ?_
      refine lv_iconst (v := nI 0) hx hb dc_Mo_hint_1 (by decide +kernel) ?_
      refine va_put (ci := 10) (v := .int (nI 0)) (ty := .int) (C := rn_Mo) (T := fd_Mo) (N := 36) hx hb hts in_Mo ty_Mo tk_Mo nm_Mo hown hK hP hD hS 0 rfl rfl 0 (by decide) (hts _ wd_746) (fun _ h9 => h9) rfl (by decide +kernel) rfl rfl (Nat.le_of_ble_eq_true rfl) dc_Mo_hint_2 (fun H locs hP hD hS => ?_)
      have hP : va_P D kc_l [mo_c o 0 mty x0 mat mfr mto mgd mrd x1 x2 x3 mhf mhp mcl mck mba mct x4 x5 x6 x7 x8 mst x9 x10 x11 x12 mtr mrs x13 x14 x15 x16 mwr x17 mfo, ar_n cI x11 33 hc, ar_i cI x12 6400 hh] H := hP
      have hD : va_D A [mo_c o 0 mty x0 mat mfr mto mgd mrd x1 x2 x3 mhf mhp mcl mck mba mct x4 x5 x6 x7 x8 mst x9 x10 x11 x12 mtr mrs x13 x14 x15 x16 mwr x17 mfo, ar_n cI x11 33 hc, ar_i cI x12 6400 hh] := hD
      refine lv_aload_n hx hb dc_Mo_hint_5 rfl (lv_at hl 0 rfl) ?_
      refine lv_iload_n hx hb dc_Mo_hint_6 rfl (lv_at hl 1 rfl) ?_
      refine lv_iload_n hx hb dc_Mo_hint_7 rfl (lv_at hl 2 rfl) ?_
      refine kr_call1 (va_runV (As := [.int (nI jx), .int (nI jy)]) (rest := []) ⟨hx, hb, hml, hown, hts⟩ (ct_Mo_isHint l D cI cZ _ o 0 mty x0 mat mfr mto mgd mrd x1 x2 x3 mhf mhp mcl mck mba mct x4 x5 x6 x7 x8 mst x9 x10 x11 x12 mtr mrs x13 x14 x15 x16 mwr x17 mfo hc (nI jx) (nI jy) (hct) (hcb)) (cwV 2 hts (kx_gV wd_1016 wd_1018 (kx_sel (q := (yn_Mo_isHint, 36)) (List.mem_append_right _ (List.mem_append_right _ (List.mem_of_getElem? (i := 4) rfl)))) wd_9 wd_1019) rfl rfl rfl ⟨rfl, yd_Mo_isHint⟩ ⟨Nat.le_of_ble_eq_true rfl, Nat.le_of_ble_eq_true rfl⟩) (kp_V (q0 := 0) (ci := 10) hP hD hK hN [0, 1] rfl rfl rfl rfl rfl) rfl rfl hl.1 rfl (lv_room (Nat.le_of_ble_eq_true rfl)) dc_Mo_hint_8 ⟨Nat.le_of_ble_eq_true rfl, Nat.le_of_ble_eq_true rfl⟩) ?_
      refine kb_if_eq hx hb dc_Mo_hint_11 rfl (fun hc11 => ?_) (fun hc11 => ?_)
      · have hq := of_decide_eq_false hc11
        refine lv_iconst (v := nI 0) hx hb dc_Mo_hint_36 (by decide +kernel) ?_
        exact kw_iret hx hb hr hlocks hP hD hS dc_Mo_hint_37 (by rw [if_neg hq]; rfl) (rfl)
      · have hq := of_decide_eq_true hc11
        have hq9 := hq
        rw [hzx, hzy] at hq9
        have hq8 := hbs jx hq9.1.1 hq9.1.2.1 hq9.1.2.2 (by omega)
        have hq7 := hcb jx
        refine lv_aload_n hx hb dc_Mo_hint_14 rfl (lv_at hl 0 rfl) ?_
        refine va_get (ci := 10) (v := .ref x12) (C := rn_Mo) (T := fd_Mo) (N := 36) hx hb hts in_Mo hown hK hP 0 rfl rfl 26 (by decide) (hts _ wd_772) (fun _ h9 => h9) rfl dc_Mo_hint_15 ?_
        refine lv_sipush (v := nI 400) hx hb dc_Mo_hint_18 (by decide +kernel) ?_
        refine lv_iload_n hx hb dc_Mo_hint_21 rfl (lv_at hl 1 rfl) ?_
        refine lv_aload_n hx hb dc_Mo_hint_22 rfl (lv_at hl 0 rfl) ?_
        refine va_get (ci := 10) (v := .int (nI mba)) (C := rn_Mo) (T := fd_Mo) (N := 36) hx hb hts in_Mo hown hK hP 0 rfl rfl 15 (by decide) (hts _ wd_761) (fun _ h9 => h9) rfl dc_Mo_hint_23 ?_
        refine kn_isub hx hb (by omega) dc_Mo_hint_26 ?_
        refine lv_iconst (v := nI 1) hx hb dc_Mo_hint_27 (by decide +kernel) ?_
        refine kn_isub hx hb (by omega) dc_Mo_hint_28 ?_
        refine kn_imul hx hb dc_Mo_hint_29 ?_
        refine lv_iload_n hx hb dc_Mo_hint_30 rfl (lv_at hl 2 rfl) ?_
        refine kn_iadd hx hb dc_Mo_hint_31 ?_
        refine ka_iald (f := hh) hx hb hK hP 2 0 rfl rfl (j := (400 * ((jx - mba) - 1)) + jy) (by omega) (by omega) dc_Mo_hint_32 ?_
        refine lv_goto hx hb dc_Mo_hint_33 rfl ?_
        exact kw_iret hx hb hr hlocks hP hD hS dc_Mo_hint_37 (by rw [if_pos hq, hzx, hzy]) (rfl)

set_option maxHeartbeats 4000000 in
set_option maxRecDepth 100000 in
theorem ct_Mo_poke (l : Launch) (D : va_G) (cI cZ : ClassId) (sz : Nat) (o : Nat) (mth : Nat) (mty : Nat) (x0 : Nat) (mat : Nat) (mfr : Nat) (mto : Nat) (mgd : Bool) (mrd : Nat) (x1 : Nat) (x2 : Nat) (x3 : Nat) (mhf : Bool) (mhp : Bool) (mcl : Bool) (mck : Bool) (mba : Nat) (mct : Nat) (x4 : Nat) (x5 : Nat) (x6 : Nat) (x7 : Nat) (x8 : Nat) (mst : Nat) (x9 : Nat) (x10 : Nat) (x11 : Nat) (x12 : Nat) (mtr : Nat) (mrs : Nat) (x13 : Nat) (x14 : Nat) (x15 : Nat) (x16 : Nat) (mwr : Nat) (x17 : Nat) (mfo : Nat) (hc : Nat → Nat) (hh : Nat → Int32) (x : Int32) (y : Int32) (z : Int32) (hct : mct ≤ 32) (hcb : ∀ j, hc j ≤ 400) (hbs : ∀ j, mck = true → 1 ≤ j → j ≤ mct → 0 < hc j → mba < j ∧ j ≤ mba + 16) : Met l yn_Mo_poke (Cond.code yn_Mo_poke bc_Mo_poke 4 (some .boolean) :: kx_all) ({ frames := 2, cells := 0, slots := 0, locals := 43 } : Room) (kp [.ref o, .int x, .int y, .int z] D cI cZ [mo_c o mth mty x0 mat mfr mto mgd mrd x1 x2 x3 mhf mhp mcl mck mba mct x4 x5 x6 x7 x8 mst x9 x10 x11 x12 mtr mrs x13 x14 x15 x16 mwr x17 mfo, ar_n cI x11 33 hc, ar_i cI x12 6400 hh] sz) (kw_q (some (.int (kb_i (decide ((mck = true ∧ 1 ≤ pt_num x ∧ pt_num x ≤ mct) ∧ ¬ y < 0 ∧ pt_num y < hc (pt_num x)))))) D kc_l [mo_c o 0 mty x0 mat mfr mto mgd mrd x1 x2 x3 mhf mhp mcl mck mba mct x4 x5 x6 x7 x8 mst x9 x10 x11 x12 mtr mrs x13 x14 x15 x16 mwr x17 mfo, ar_n cI x11 33 hc, ar_i cI x12 6400 (if (mck = true ∧ 1 ≤ pt_num x ∧ pt_num x ≤ mct) ∧ ¬ y < 0 ∧ pt_num y < hc (pt_num x) then upd hh (400 * (pt_num x - mba - 1) + pt_num y) z else hh)] (va_A [mo_c o mth mty x0 mat mfr mto mgd mrd x1 x2 x3 mhf mhp mcl mck mba mct x4 x5 x6 x7 x8 mst x9 x10 x11 x12 mtr mrs x13 x14 x15 x16 mwr x17 mfo, ar_n cI x11 33 hc, ar_i cI x12 6400 hh] sz)) 0 0 (va_A [mo_c o mth mty x0 mat mfr mto mgd mrd x1 x2 x3 mhf mhp mcl mck mba mct x4 x5 x6 x7 x8 mst x9 x10 x11 x12 mtr mrs x13 x14 x15 x16 mwr x17 mfo, ar_n cI x11 33 hc, ar_i cI x12 6400 hh] sz) := by
  refine kx_metW (by decide) (Nat.le_of_ble_eq_true rfl) ?_
  intro p e s m below meth c ls A hx hb hr hml hts hown hlocks hin hA hP hK hD hN hl hS
  have hown : s.vm.findClass rn_Mo = some m.cls := hown
  have hl : lv_has ls 4 [(0, .ref o), (1, .int x), (2, .int y), (3, .int z)] := hl
  rcases num_or x with ⟨hix, hzx⟩ | ⟨jx, hjx, rfl, hzx⟩
  · rcases num_or y with ⟨hiy, hzy⟩ | ⟨jy, hjy, rfl, hzy⟩
    · refine lv_aload_n hx hb dc_Mo_poke_0 rfl (lv_at hl 0 rfl) ?_
      refine lv_iconst (v := nI 0) hx hb dc_Mo_poke_1 (by decide +kernel) ?_
      refine va_put (ci := 10) (v := .int (nI 0)) (ty := .int) (C := rn_Mo) (T := fd_Mo) (N := 36) hx hb hts in_Mo ty_Mo tk_Mo nm_Mo hown hK hP hD hS 0 rfl rfl 0 (by decide) (hts _ wd_746) (fun _ h9 => h9) rfl (by decide +kernel) rfl rfl (Nat.le_of_ble_eq_true rfl) dc_Mo_poke_2 (fun H locs hP hD hS => ?_)
      have hP : va_P D kc_l [mo_c o 0 mty x0 mat mfr mto mgd mrd x1 x2 x3 mhf mhp mcl mck mba mct x4 x5 x6 x7 x8 mst x9 x10 x11 x12 mtr mrs x13 x14 x15 x16 mwr x17 mfo, ar_n cI x11 33 hc, ar_i cI x12 6400 hh] H := hP
      have hD : va_D A [mo_c o 0 mty x0 mat mfr mto mgd mrd x1 x2 x3 mhf mhp mcl mck mba mct x4 x5 x6 x7 x8 mst x9 x10 x11 x12 mtr mrs x13 x14 x15 x16 mwr x17 mfo, ar_n cI x11 33 hc, ar_i cI x12 6400 hh] := hD
      refine lv_aload_n hx hb dc_Mo_poke_5 rfl (lv_at hl 0 rfl) ?_
      refine lv_iload_n hx hb dc_Mo_poke_6 rfl (lv_at hl 1 rfl) ?_
      refine lv_iload_n hx hb dc_Mo_poke_7 rfl (lv_at hl 2 rfl) ?_
      refine kr_call1 (va_runV (As := [.int x, .int y]) (rest := []) ⟨hx, hb, hml, hown, hts⟩ (ct_Mo_isHint l D cI cZ _ o 0 mty x0 mat mfr mto mgd mrd x1 x2 x3 mhf mhp mcl mck mba mct x4 x5 x6 x7 x8 mst x9 x10 x11 x12 mtr mrs x13 x14 x15 x16 mwr x17 mfo hc x y (hct) (hcb)) (cwV 2 hts (kx_gV wd_1016 wd_1018 (kx_sel (q := (yn_Mo_isHint, 36)) (List.mem_append_right _ (List.mem_append_right _ (List.mem_of_getElem? (i := 4) rfl)))) wd_9 wd_1019) rfl rfl rfl ⟨rfl, yd_Mo_isHint⟩ ⟨Nat.le_of_ble_eq_true rfl, Nat.le_of_ble_eq_true rfl⟩) (kp_V (q0 := 0) (ci := 10) hP hD hK hN [0, 1] rfl rfl rfl rfl rfl) rfl rfl hl.1 rfl (lv_room (Nat.le_of_ble_eq_true rfl)) dc_Mo_poke_8 ⟨Nat.le_of_ble_eq_true rfl, Nat.le_of_ble_eq_true rfl⟩) ?_
      refine kb_if_eq hx hb dc_Mo_poke_11 rfl (fun hc11 => ?_) (fun hc11 => ?_)
      · refine lv_iconst (v := nI 0) hx hb dc_Mo_poke_36 (by decide +kernel) ?_
        refine kn_top (y := kb_i false) (by decide +kernel) ?_
        exact kw_zret hx hb hr hlocks hP hD hS dc_Mo_poke_37 ((decide_eq_false (fun q => by rw [hzx] at q; omega)).symm) (by rw [if_neg (fun q => by rw [hzx] at q; omega)])
      · exact absurd (of_decide_eq_true hc11) (fun q => by rw [hzx] at q; omega)
    · refine lv_aload_n hx hb dc_Mo_poke_0 rfl (lv_at hl 0 rfl) ?_
      refine lv_iconst (v := nI 0) hx hb dc_Mo_poke_1 (by decide +kernel) ?_
      refine va_put (ci := 10) (v := .int (nI 0)) (ty := .int) (C := rn_Mo) (T := fd_Mo) (N := 36) hx hb hts in_Mo ty_Mo tk_Mo nm_Mo hown hK hP hD hS 0 rfl rfl 0 (by decide) (hts _ wd_746) (fun _ h9 => h9) rfl (by decide +kernel) rfl rfl (Nat.le_of_ble_eq_true rfl) dc_Mo_poke_2 (fun H locs hP hD hS => ?_)
      have hP : va_P D kc_l [mo_c o 0 mty x0 mat mfr mto mgd mrd x1 x2 x3 mhf mhp mcl mck mba mct x4 x5 x6 x7 x8 mst x9 x10 x11 x12 mtr mrs x13 x14 x15 x16 mwr x17 mfo, ar_n cI x11 33 hc, ar_i cI x12 6400 hh] H := hP
      have hD : va_D A [mo_c o 0 mty x0 mat mfr mto mgd mrd x1 x2 x3 mhf mhp mcl mck mba mct x4 x5 x6 x7 x8 mst x9 x10 x11 x12 mtr mrs x13 x14 x15 x16 mwr x17 mfo, ar_n cI x11 33 hc, ar_i cI x12 6400 hh] := hD
      refine lv_aload_n hx hb dc_Mo_poke_5 rfl (lv_at hl 0 rfl) ?_
      refine lv_iload_n hx hb dc_Mo_poke_6 rfl (lv_at hl 1 rfl) ?_
      refine lv_iload_n hx hb dc_Mo_poke_7 rfl (lv_at hl 2 rfl) ?_
      refine kr_call1 (va_runV (As := [.int x, .int (nI jy)]) (rest := []) ⟨hx, hb, hml, hown, hts⟩ (ct_Mo_isHint l D cI cZ _ o 0 mty x0 mat mfr mto mgd mrd x1 x2 x3 mhf mhp mcl mck mba mct x4 x5 x6 x7 x8 mst x9 x10 x11 x12 mtr mrs x13 x14 x15 x16 mwr x17 mfo hc x (nI jy) (hct) (hcb)) (cwV 2 hts (kx_gV wd_1016 wd_1018 (kx_sel (q := (yn_Mo_isHint, 36)) (List.mem_append_right _ (List.mem_append_right _ (List.mem_of_getElem? (i := 4) rfl)))) wd_9 wd_1019) rfl rfl rfl ⟨rfl, yd_Mo_isHint⟩ ⟨Nat.le_of_ble_eq_true rfl, Nat.le_of_ble_eq_true rfl⟩) (kp_V (q0 := 0) (ci := 10) hP hD hK hN [0, 1] rfl rfl rfl rfl rfl) rfl rfl hl.1 rfl (lv_room (Nat.le_of_ble_eq_true rfl)) dc_Mo_poke_8 ⟨Nat.le_of_ble_eq_true rfl, Nat.le_of_ble_eq_true rfl⟩) ?_
      refine kb_if_eq hx hb dc_Mo_poke_11 rfl (fun hc11 => ?_) (fun hc11 => ?_)
      · refine lv_iconst (v := nI 0) hx hb dc_Mo_poke_36 (by decide +kernel) ?_
        refine kn_top (y := kb_i false) (by decide +kernel) ?_
        exact kw_zret hx hb hr hlocks hP hD hS dc_Mo_poke_37 ((decide_eq_false (fun q => by rw [hzx] at q; omega)).symm) (by rw [if_neg (fun q => by rw [hzx] at q; omega)])
      · exact absurd (of_decide_eq_true hc11) (fun q => by rw [hzx] at q; omega)
  · rcases num_or y with ⟨hiy, hzy⟩ | ⟨jy, hjy, rfl, hzy⟩
    · refine lv_aload_n hx hb dc_Mo_poke_0 rfl (lv_at hl 0 rfl) ?_
      refine lv_iconst (v := nI 0) hx hb dc_Mo_poke_1 (by decide +kernel) ?_
      refine va_put (ci := 10) (v := .int (nI 0)) (ty := .int) (C := rn_Mo) (T := fd_Mo) (N := 36) hx hb hts in_Mo ty_Mo tk_Mo nm_Mo hown hK hP hD hS 0 rfl rfl 0 (by decide) (hts _ wd_746) (fun _ h9 => h9) rfl (by decide +kernel) rfl rfl (Nat.le_of_ble_eq_true rfl) dc_Mo_poke_2 (fun H locs hP hD hS => ?_)
      have hP : va_P D kc_l [mo_c o 0 mty x0 mat mfr mto mgd mrd x1 x2 x3 mhf mhp mcl mck mba mct x4 x5 x6 x7 x8 mst x9 x10 x11 x12 mtr mrs x13 x14 x15 x16 mwr x17 mfo, ar_n cI x11 33 hc, ar_i cI x12 6400 hh] H := hP
      have hD : va_D A [mo_c o 0 mty x0 mat mfr mto mgd mrd x1 x2 x3 mhf mhp mcl mck mba mct x4 x5 x6 x7 x8 mst x9 x10 x11 x12 mtr mrs x13 x14 x15 x16 mwr x17 mfo, ar_n cI x11 33 hc, ar_i cI x12 6400 hh] := hD
      refine lv_aload_n hx hb dc_Mo_poke_5 rfl (lv_at hl 0 rfl) ?_
      refine lv_iload_n hx hb dc_Mo_poke_6 rfl (lv_at hl 1 rfl) ?_
      refine lv_iload_n hx hb dc_Mo_poke_7 rfl (lv_at hl 2 rfl) ?_
      refine kr_call1 (va_runV (As := [.int (nI jx), .int y]) (rest := []) ⟨hx, hb, hml, hown, hts⟩ (ct_Mo_isHint l D cI cZ _ o 0 mty x0 mat mfr mto mgd mrd x1 x2 x3 mhf mhp mcl mck mba mct x4 x5 x6 x7 x8 mst x9 x10 x11 x12 mtr mrs x13 x14 x15 x16 mwr x17 mfo hc (nI jx) y (hct) (hcb)) (cwV 2 hts (kx_gV wd_1016 wd_1018 (kx_sel (q := (yn_Mo_isHint, 36)) (List.mem_append_right _ (List.mem_append_right _ (List.mem_of_getElem? (i := 4) rfl)))) wd_9 wd_1019) rfl rfl rfl ⟨rfl, yd_Mo_isHint⟩ ⟨Nat.le_of_ble_eq_true rfl, Nat.le_of_ble_eq_true rfl⟩) (kp_V (q0 := 0) (ci := 10) hP hD hK hN [0, 1] rfl rfl rfl rfl rfl) rfl rfl hl.1 rfl (lv_room (Nat.le_of_ble_eq_true rfl)) dc_Mo_poke_8 ⟨Nat.le_of_ble_eq_true rfl, Nat.le_of_ble_eq_true rfl⟩) ?_
      refine kb_if_eq hx hb dc_Mo_poke_11 rfl (fun hc11 => ?_) (fun hc11 => ?_)
      · refine lv_iconst (v := nI 0) hx hb dc_Mo_poke_36 (by decide +kernel) ?_
        refine kn_top (y := kb_i false) (by decide +kernel) ?_
        exact kw_zret hx hb hr hlocks hP hD hS dc_Mo_poke_37 ((decide_eq_false (fun q => by exact q.2.1 hiy)).symm) (by rw [if_neg (fun q => by exact q.2.1 hiy)])
      · exact absurd (of_decide_eq_true hc11) (fun q => by exact q.2.1 hiy)
    · refine lv_aload_n hx hb dc_Mo_poke_0 rfl (lv_at hl 0 rfl) ?_
      refine lv_iconst (v := nI 0) hx hb dc_Mo_poke_1 (by decide +kernel) ?_
      refine va_put (ci := 10) (v := .int (nI 0)) (ty := .int) (C := rn_Mo) (T := fd_Mo) (N := 36) hx hb hts in_Mo ty_Mo tk_Mo nm_Mo hown hK hP hD hS 0 rfl rfl 0 (by decide) (hts _ wd_746) (fun _ h9 => h9) rfl (by decide +kernel) rfl rfl (Nat.le_of_ble_eq_true rfl) dc_Mo_poke_2 (fun H locs hP hD hS => ?_)
      have hP : va_P D kc_l [mo_c o 0 mty x0 mat mfr mto mgd mrd x1 x2 x3 mhf mhp mcl mck mba mct x4 x5 x6 x7 x8 mst x9 x10 x11 x12 mtr mrs x13 x14 x15 x16 mwr x17 mfo, ar_n cI x11 33 hc, ar_i cI x12 6400 hh] H := hP
      have hD : va_D A [mo_c o 0 mty x0 mat mfr mto mgd mrd x1 x2 x3 mhf mhp mcl mck mba mct x4 x5 x6 x7 x8 mst x9 x10 x11 x12 mtr mrs x13 x14 x15 x16 mwr x17 mfo, ar_n cI x11 33 hc, ar_i cI x12 6400 hh] := hD
      refine lv_aload_n hx hb dc_Mo_poke_5 rfl (lv_at hl 0 rfl) ?_
      refine lv_iload_n hx hb dc_Mo_poke_6 rfl (lv_at hl 1 rfl) ?_
      refine lv_iload_n hx hb dc_Mo_poke_7 rfl (lv_at hl 2 rfl) ?_
      refine kr_call1 (va_runV (As := [.int (nI jx), .int (nI jy)]) (rest := []) ⟨hx, hb, hml, hown, hts⟩ (ct_Mo_isHint l D cI cZ _ o 0 mty x0 mat mfr mto mgd mrd x1 x2 x3 mhf mhp mcl mck mba mct x4 x5 x6 x7 x8 mst x9 x10 x11 x12 mtr mrs x13 x14 x15 x16 mwr x17 mfo hc (nI jx) (nI jy) (hct) (hcb)) (cwV 2 hts (kx_gV wd_1016 wd_1018 (kx_sel (q := (yn_Mo_isHint, 36)) (List.mem_append_right _ (List.mem_append_right _ (List.mem_of_getElem? (i := 4) rfl)))) wd_9 wd_1019) rfl rfl rfl ⟨rfl, yd_Mo_isHint⟩ ⟨Nat.le_of_ble_eq_true rfl, Nat.le_of_ble_eq_true rfl⟩) (kp_V (q0 := 0) (ci := 10) hP hD hK hN [0, 1] rfl rfl rfl rfl rfl) rfl rfl hl.1 rfl (lv_room (Nat.le_of_ble_eq_true rfl)) dc_Mo_poke_8 ⟨Nat.le_of_ble_eq_true rfl, Nat.le_of_ble_eq_true rfl⟩) ?_
      refine kb_if_eq hx hb dc_Mo_poke_11 rfl (fun hc11 => ?_) (fun hc11 => ?_)
      · have hq := of_decide_eq_false hc11
        refine lv_iconst (v := nI 0) hx hb dc_Mo_poke_36 (by decide +kernel) ?_
        refine kn_top (y := kb_i false) (by decide +kernel) ?_
        exact kw_zret hx hb hr hlocks hP hD hS dc_Mo_poke_37 ((decide_eq_false hq).symm) (by rw [if_neg hq])
      · have hq := of_decide_eq_true hc11
        have hq9 := hq
        rw [hzx, hzy] at hq9
        have hq8 := hbs jx hq9.1.1 hq9.1.2.1 hq9.1.2.2 (by omega)
        have hq7 := hcb jx
        refine lv_aload_n hx hb dc_Mo_poke_14 rfl (lv_at hl 0 rfl) ?_
        refine va_get (ci := 10) (v := .ref x12) (C := rn_Mo) (T := fd_Mo) (N := 36) hx hb hts in_Mo hown hK hP 0 rfl rfl 26 (by decide) (hts _ wd_772) (fun _ h9 => h9) rfl dc_Mo_poke_15 ?_
        refine lv_sipush (v := nI 400) hx hb dc_Mo_poke_18 (by decide +kernel) ?_
        refine lv_iload_n hx hb dc_Mo_poke_21 rfl (lv_at hl 1 rfl) ?_
        refine lv_aload_n hx hb dc_Mo_poke_22 rfl (lv_at hl 0 rfl) ?_
        refine va_get (ci := 10) (v := .int (nI mba)) (C := rn_Mo) (T := fd_Mo) (N := 36) hx hb hts in_Mo hown hK hP 0 rfl rfl 15 (by decide) (hts _ wd_761) (fun _ h9 => h9) rfl dc_Mo_poke_23 ?_
        refine kn_isub hx hb (by omega) dc_Mo_poke_26 ?_
        refine lv_iconst (v := nI 1) hx hb dc_Mo_poke_27 (by decide +kernel) ?_
        refine kn_isub hx hb (by omega) dc_Mo_poke_28 ?_
        refine kn_imul hx hb dc_Mo_poke_29 ?_
        refine lv_iload_n hx hb dc_Mo_poke_30 rfl (lv_at hl 2 rfl) ?_
        refine kn_iadd hx hb dc_Mo_poke_31 ?_
        refine lv_iload_n hx hb dc_Mo_poke_32 rfl (lv_at hl 3 rfl) ?_
        refine ka_iast (f := hh) hx hb hK hP hD hS 2 0 rfl rfl (j := (400 * ((jx - mba) - 1)) + jy) (by omega) (by omega) dc_Mo_poke_33 (ws' := [mo_c o 0 mty x0 mat mfr mto mgd mrd x1 x2 x3 mhf mhp mcl mck mba mct x4 x5 x6 x7 x8 mst x9 x10 x11 x12 mtr mrs x13 x14 x15 x16 mwr x17 mfo, ar_n cI x11 33 hc, ar_i cI x12 6400 (upd hh ((400 * ((jx - mba) - 1)) + jy) z)]) rfl (fun H locs hP hD hS => ?_)
        refine lv_iconst (v := nI 1) hx hb dc_Mo_poke_34 (by decide +kernel) ?_
        refine kn_top (y := kb_i true) (by decide +kernel) ?_
        exact kw_zret hx hb hr hlocks hP hD hS dc_Mo_poke_35 ((decide_eq_true hq).symm) (by rw [if_pos hq, hzx, hzy])

set_option maxHeartbeats 4000000 in
set_option maxRecDepth 100000 in
theorem ct_Mo_written (l : Launch) (D : va_G) (cI cZ : ClassId) (sz : Nat) (o : Nat) (mth : Nat) (mty : Nat) (x0 : Nat) (mat : Nat) (mfr : Nat) (mto : Nat) (mgd : Bool) (mrd : Nat) (x1 : Nat) (x2 : Nat) (x3 : Nat) (mhf : Bool) (mhp : Bool) (mcl : Bool) (mck : Bool) (mba : Nat) (mct : Nat) (x4 : Nat) (x5 : Nat) (x6 : Nat) (x7 : Nat) (x8 : Nat) (mst : Nat) (x9 : Nat) (x10 : Nat) (x11 : Nat) (x12 : Nat) (mtr : Nat) (mrs : Nat) (x13 : Nat) (x14 : Nat) (x15 : Nat) (x16 : Nat) (mwr : Nat) (x17 : Nat) (mfo : Nat) (ot : Nat → Nat) (x : Int32) (hwr : mwr ≤ 600) : Met l yn_Mo_written (Cond.code yn_Mo_written bc_Mo_written 2 (some .int) :: kx_all) ({ frames := 0, cells := 0, slots := 0, locals := 0 } : Room) (kp [.ref o, .int x] D cI cZ [mo_c o mth mty x0 mat mfr mto mgd mrd x1 x2 x3 mhf mhp mcl mck mba mct x4 x5 x6 x7 x8 mst x9 x10 x11 x12 mtr mrs x13 x14 x15 x16 mwr x17 mfo, ar_n cI x17 600 ot] sz) (kw_q (some (.int (pt_at ot mwr x))) D kc_l [mo_c o 0 mty x0 mat mfr mto mgd mrd x1 x2 x3 mhf mhp mcl mck mba mct x4 x5 x6 x7 x8 mst x9 x10 x11 x12 mtr mrs x13 x14 x15 x16 mwr x17 mfo, ar_n cI x17 600 ot] (va_A [mo_c o mth mty x0 mat mfr mto mgd mrd x1 x2 x3 mhf mhp mcl mck mba mct x4 x5 x6 x7 x8 mst x9 x10 x11 x12 mtr mrs x13 x14 x15 x16 mwr x17 mfo, ar_n cI x17 600 ot] sz)) 0 0 (va_A [mo_c o mth mty x0 mat mfr mto mgd mrd x1 x2 x3 mhf mhp mcl mck mba mct x4 x5 x6 x7 x8 mst x9 x10 x11 x12 mtr mrs x13 x14 x15 x16 mwr x17 mfo, ar_n cI x17 600 ot] sz) := by
  refine kx_metW (by decide) (Nat.le_of_ble_eq_true rfl) ?_
  intro p e s m below meth c ls A hx hb hr hml hts hown hlocks hin hA hP hK hD hN hl hS
  have hown : s.vm.findClass rn_Mo = some m.cls := hown
  have hl : lv_has ls 2 [(0, .ref o), (1, .int x)] := hl
  rcases num_or x with ⟨hix, hzx⟩ | ⟨jx, hjx, rfl, hzx⟩
  · refine lv_aload_n hx hb dc_Mo_written_0 rfl (lv_at hl 0 rfl) ?_
    refine lv_iconst (v := nI 0) hx hb dc_Mo_written_1 (by decide +kernel) ?_
    refine va_put (ci := 10) (v := .int (nI 0)) (ty := .int) (C := rn_Mo) (T := fd_Mo) (N := 36) hx hb hts in_Mo ty_Mo tk_Mo nm_Mo hown hK hP hD hS 0 rfl rfl 0 (by decide) (hts _ wd_746) (fun _ h9 => h9) rfl (by decide +kernel) rfl rfl (Nat.le_of_ble_eq_true rfl) dc_Mo_written_2 (fun H locs hP hD hS => ?_)
    have hP : va_P D kc_l [mo_c o 0 mty x0 mat mfr mto mgd mrd x1 x2 x3 mhf mhp mcl mck mba mct x4 x5 x6 x7 x8 mst x9 x10 x11 x12 mtr mrs x13 x14 x15 x16 mwr x17 mfo, ar_n cI x17 600 ot] H := hP
    have hD : va_D A [mo_c o 0 mty x0 mat mfr mto mgd mrd x1 x2 x3 mhf mhp mcl mck mba mct x4 x5 x6 x7 x8 mst x9 x10 x11 x12 mtr mrs x13 x14 x15 x16 mwr x17 mfo, ar_n cI x17 600 ot] := hD
    refine lv_iload_n hx hb dc_Mo_written_5 rfl (lv_at hl 1 rfl) ?_
    refine lv_if_lt hx hb dc_Mo_written_6 rfl (fun hc6 => ?_) (fun hc6 => ?_)
    · refine lv_sipush (v := (-1000)) hx hb dc_Mo_written_26 (by decide +kernel) ?_
      exact kw_iret hx hb hr hlocks hP hD hS dc_Mo_written_29 ((pt_at_lt hix).symm) (rfl)
    · exact absurd hix hc6
  · refine lv_aload_n hx hb dc_Mo_written_0 rfl (lv_at hl 0 rfl) ?_
    refine lv_iconst (v := nI 0) hx hb dc_Mo_written_1 (by decide +kernel) ?_
    refine va_put (ci := 10) (v := .int (nI 0)) (ty := .int) (C := rn_Mo) (T := fd_Mo) (N := 36) hx hb hts in_Mo ty_Mo tk_Mo nm_Mo hown hK hP hD hS 0 rfl rfl 0 (by decide) (hts _ wd_746) (fun _ h9 => h9) rfl (by decide +kernel) rfl rfl (Nat.le_of_ble_eq_true rfl) dc_Mo_written_2 (fun H locs hP hD hS => ?_)
    have hP : va_P D kc_l [mo_c o 0 mty x0 mat mfr mto mgd mrd x1 x2 x3 mhf mhp mcl mck mba mct x4 x5 x6 x7 x8 mst x9 x10 x11 x12 mtr mrs x13 x14 x15 x16 mwr x17 mfo, ar_n cI x17 600 ot] H := hP
    have hD : va_D A [mo_c o 0 mty x0 mat mfr mto mgd mrd x1 x2 x3 mhf mhp mcl mck mba mct x4 x5 x6 x7 x8 mst x9 x10 x11 x12 mtr mrs x13 x14 x15 x16 mwr x17 mfo, ar_n cI x17 600 ot] := hD
    refine lv_iload_n hx hb dc_Mo_written_5 rfl (lv_at hl 1 rfl) ?_
    refine lv_if_lt hx hb dc_Mo_written_6 rfl (fun hc6 => ?_) (fun hc6 => ?_)
    · exact absurd hc6 (nI_p hjx)
    · refine lv_iload_n hx hb dc_Mo_written_9 rfl (lv_at hl 1 rfl) ?_
      refine lv_aload_n hx hb dc_Mo_written_10 rfl (lv_at hl 0 rfl) ?_
      refine va_get (ci := 10) (v := .int (nI mwr)) (C := rn_Mo) (T := fd_Mo) (N := 36) hx hb hts in_Mo hown hK hP 0 rfl rfl 33 (by decide) (hts _ wd_779) (fun _ h9 => h9) rfl dc_Mo_written_11 ?_
      refine kn_icmp_ge hx hb (by omega) (by omega) dc_Mo_written_14 rfl (fun hc14 => ?_) (fun hc14 => ?_)
      · refine lv_sipush (v := (-1000)) hx hb dc_Mo_written_26 (by decide +kernel) ?_
        exact kw_iret hx hb hr hlocks hP hD hS dc_Mo_written_29 ((pt_at_out (by omega) (by omega)).symm) (rfl)
      · refine lv_aload_n hx hb dc_Mo_written_17 rfl (lv_at hl 0 rfl) ?_
        refine va_get (ci := 10) (v := .ref x17) (C := rn_Mo) (T := fd_Mo) (N := 36) hx hb hts in_Mo hown hK hP 0 rfl rfl 34 (by decide) (hts _ wd_780) (fun _ h9 => h9) rfl dc_Mo_written_18 ?_
        refine lv_iload_n hx hb dc_Mo_written_21 rfl (lv_at hl 1 rfl) ?_
        refine ka_nald (t := ot) hx hb hK hP 1 0 rfl rfl (j := jx) (by omega) (by omega) dc_Mo_written_22 ?_
        refine lv_goto hx hb dc_Mo_written_23 rfl ?_
        exact kw_iret hx hb hr hlocks hP hD hS dc_Mo_written_29 ((pt_at_in (by omega) (by omega)).symm) (rfl)

set_option maxHeartbeats 4000000 in
set_option maxRecDepth 100000 in
theorem ct_Mo_put (l : Launch) (D : va_G) (cI cZ : ClassId) (sz : Nat) (o : Nat) (mth : Nat) (mty : Nat) (x0 : Nat) (mat : Nat) (mfr : Nat) (mto : Nat) (mgd : Bool) (mrd : Nat) (x1 : Nat) (x2 : Nat) (x3 : Nat) (mhf : Bool) (mhp : Bool) (mcl : Bool) (mck : Bool) (mba : Nat) (mct : Nat) (x4 : Nat) (x5 : Nat) (x6 : Nat) (x7 : Nat) (x8 : Nat) (mst : Nat) (x9 : Nat) (x10 : Nat) (x11 : Nat) (x12 : Nat) (mtr : Nat) (mrs : Nat) (x13 : Nat) (x14 : Nat) (x15 : Nat) (x16 : Nat) (mwr : Nat) (x17 : Nat) (mfo : Nat) (ot : Nat → Nat) (x : Nat) (hwr : mwr < 600) : Met l yn_Mo_put (Cond.code yn_Mo_put bc_Mo_put 2 none :: kx_all) ({ frames := 0, cells := 0, slots := 0, locals := 0 } : Room) (kp [.ref o, .int (nI x)] D cI cZ [mo_c o mth mty x0 mat mfr mto mgd mrd x1 x2 x3 mhf mhp mcl mck mba mct x4 x5 x6 x7 x8 mst x9 x10 x11 x12 mtr mrs x13 x14 x15 x16 mwr x17 mfo, ar_n cI x17 600 ot] sz) (kw_q none D kc_l [mo_c o mth mty x0 mat mfr mto mgd mrd x1 x2 x3 mhf mhp mcl mck mba mct x4 x5 x6 x7 x8 mst x9 x10 x11 x12 mtr mrs x13 x14 x15 x16 (mwr + 1) x17 mfo, ar_n cI x17 600 (va_up ot mwr x)] (va_A [mo_c o mth mty x0 mat mfr mto mgd mrd x1 x2 x3 mhf mhp mcl mck mba mct x4 x5 x6 x7 x8 mst x9 x10 x11 x12 mtr mrs x13 x14 x15 x16 mwr x17 mfo, ar_n cI x17 600 ot] sz)) 0 0 (va_A [mo_c o mth mty x0 mat mfr mto mgd mrd x1 x2 x3 mhf mhp mcl mck mba mct x4 x5 x6 x7 x8 mst x9 x10 x11 x12 mtr mrs x13 x14 x15 x16 mwr x17 mfo, ar_n cI x17 600 ot] sz) := by
  refine kx_metW (by decide) (Nat.le_of_ble_eq_true rfl) ?_
  intro p e s m below meth c ls A hx hb hr hml hts hown hlocks hin hA hP hK hD hN hl hS
  have hown : s.vm.findClass rn_Mo = some m.cls := hown
  have hl : lv_has ls 2 [(0, .ref o), (1, .int (nI x))] := hl
  refine lv_aload_n hx hb dc_Mo_put_0 rfl (lv_at hl 0 rfl) ?_
  refine va_get (ci := 10) (v := .ref x17) (C := rn_Mo) (T := fd_Mo) (N := 36) hx hb hts in_Mo hown hK hP 0 rfl rfl 34 (by decide) (hts _ wd_780) (fun _ h9 => h9) rfl dc_Mo_put_1 ?_
  refine lv_aload_n hx hb dc_Mo_put_4 rfl (lv_at hl 0 rfl) ?_
  refine va_get (ci := 10) (v := .int (nI mwr)) (C := rn_Mo) (T := fd_Mo) (N := 36) hx hb hts in_Mo hown hK hP 0 rfl rfl 33 (by decide) (hts _ wd_779) (fun _ h9 => h9) rfl dc_Mo_put_5 ?_
  refine lv_iload_n hx hb dc_Mo_put_8 rfl (lv_at hl 1 rfl) ?_
  refine ka_nast (t := ot) hx hb hK hP hD hS 1 0 rfl rfl (j := mwr) (by omega) (by omega) dc_Mo_put_9 (ws' := [mo_c o mth mty x0 mat mfr mto mgd mrd x1 x2 x3 mhf mhp mcl mck mba mct x4 x5 x6 x7 x8 mst x9 x10 x11 x12 mtr mrs x13 x14 x15 x16 mwr x17 mfo, ar_n cI x17 600 (va_up ot mwr x)]) rfl (fun H locs hP hD hS => ?_)
  refine lv_aload_n hx hb dc_Mo_put_10 rfl (lv_at hl 0 rfl) ?_
  refine lv_dup hx hb dc_Mo_put_11 rfl ?_
  refine va_get (ci := 10) (v := .int (nI mwr)) (C := rn_Mo) (T := fd_Mo) (N := 36) hx hb hts in_Mo hown hK hP 0 rfl rfl 33 (by decide) (hts _ wd_779) (fun _ h9 => h9) rfl dc_Mo_put_12 ?_
  refine lv_iconst (v := nI 1) hx hb dc_Mo_put_15 (by decide +kernel) ?_
  refine kn_iadd hx hb dc_Mo_put_16 ?_
  refine va_put (ci := 10) (v := .int (nI (mwr + 1))) (ty := .int) (C := rn_Mo) (T := fd_Mo) (N := 36) hx hb hts in_Mo ty_Mo tk_Mo nm_Mo hown hK hP hD hS 0 rfl rfl 33 (by decide) (hts _ wd_779) (fun _ h9 => h9) rfl (by decide +kernel) rfl rfl (Nat.le_of_ble_eq_true rfl) dc_Mo_put_17 (fun H locs hP hD hS => ?_)
  have hP : va_P D kc_l [mo_c o mth mty x0 mat mfr mto mgd mrd x1 x2 x3 mhf mhp mcl mck mba mct x4 x5 x6 x7 x8 mst x9 x10 x11 x12 mtr mrs x13 x14 x15 x16 (mwr + 1) x17 mfo, ar_n cI x17 600 (va_up ot mwr x)] H := hP
  have hD : va_D A [mo_c o mth mty x0 mat mfr mto mgd mrd x1 x2 x3 mhf mhp mcl mck mba mct x4 x5 x6 x7 x8 mst x9 x10 x11 x12 mtr mrs x13 x14 x15 x16 (mwr + 1) x17 mfo, ar_n cI x17 600 (va_up ot mwr x)] := hD
  exact kw_vret hx hb hr hlocks hP hD hS dc_Mo_put_20 (rfl)
