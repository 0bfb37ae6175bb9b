/-! the class reads a whole text -/
theorem rp_res {t : Nat → Nat} {tn c : Nat} : ∀ (k i : Nat) (fz fs : Nat → Nat) (fl : Nat → Int32), (pt_rp t tn c k i fz fs fl).1 = (-1000) ∨ ∃ n, (pt_rp t tn c k i fz fs fl).1 = nI n ∧ n ≤ tn := by
  intro k
  induction k with
  | zero => intro i fz fs fl; exact Or.inl rfl
  | succ k ih =>
    intro i fz fs fl
    rw [pt_rp]
    by_cases h1 : tn ≤ i
    · rw [if_pos h1]; exact Or.inl rfl
    · rw [if_neg h1]
      by_cases h2 : t i = 0
      · rw [if_pos h2]; exact Or.inr ⟨i + 1, rfl, by omega⟩
      · rw [if_neg h2]
        split
        · exact Or.inl rfl
        · rename_i b hb
          by_cases h3 : fs c &&& (2 ^ (b % 8) ||| 2 ^ (b % 8 + 8)) = 0
          · rw [if_neg (fun z => z h3)]; exact ih _ _ _ _
          · rw [if_pos h3]; exact Or.inl rfl

theorem nI_n1000 {n : Nat} (h : n ≤ 1000) : ¬ nI n = (-1000) := fun q => absurd (show ¬ nI n < 0 from nI_p (by omega)) (by rw [q]; decide)
theorem dc_Dr_readFormula_0 : decode bc_Dr_readFormula 0 = .ok (.aload_n 0, 1) := by decide +kernel
theorem dc_Dr_readFormula_1 : decode bc_Dr_readFormula 1 = .ok (.getfield 20, 3) := by decide +kernel
theorem dc_Dr_readFormula_4 : decode bc_Dr_readFormula 4 = .ok (.iconst 0, 1) := by decide +kernel
theorem dc_Dr_readFormula_5 : decode bc_Dr_readFormula 5 = .ok (.invokevirtual 30, 3) := by decide +kernel
theorem dc_Dr_readFormula_8 : decode bc_Dr_readFormula 8 = .ok (.aload_n 1, 1) := by decide +kernel
theorem dc_Dr_readFormula_9 : decode bc_Dr_readFormula 9 = .ok (.ldc 33, 2) := by decide +kernel
theorem dc_Dr_readFormula_11 : decode bc_Dr_readFormula 11 = .ok (.invokevirtual 35, 3) := by decide +kernel
theorem dc_Dr_readFormula_14 : decode bc_Dr_readFormula 14 = .ok (.ifCond .eq (12), 3) := by decide +kernel
theorem dc_Dr_readFormula_17 : decode bc_Dr_readFormula 17 = .ok (.aload_n 1, 1) := by decide +kernel
theorem dc_Dr_readFormula_18 : decode bc_Dr_readFormula 18 = .ok (.ldc 41, 2) := by decide +kernel
theorem dc_Dr_readFormula_20 : decode bc_Dr_readFormula 20 = .ok (.invokevirtual 35, 3) := by decide +kernel
theorem dc_Dr_readFormula_23 : decode bc_Dr_readFormula 23 = .ok (.ifCond .ne (5), 3) := by decide +kernel
theorem dc_Dr_readFormula_26 : decode bc_Dr_readFormula 26 = .ok (.iconst 0, 1) := by decide +kernel
theorem dc_Dr_readFormula_27 : decode bc_Dr_readFormula 27 = .ok (.ireturn, 1) := by decide +kernel
theorem dc_Dr_readFormula_28 : decode bc_Dr_readFormula 28 = .ok (.aload_n 1, 1) := by decide +kernel
theorem dc_Dr_readFormula_29 : decode bc_Dr_readFormula 29 = .ok (.invokevirtual 43, 3) := by decide +kernel
theorem dc_Dr_readFormula_32 : decode bc_Dr_readFormula 32 = .ok (.istore_n 2, 1) := by decide +kernel
theorem dc_Dr_readFormula_33 : decode bc_Dr_readFormula 33 = .ok (.aload_n 1, 1) := by decide +kernel
theorem dc_Dr_readFormula_34 : decode bc_Dr_readFormula 34 = .ok (.invokevirtual 47, 3) := by decide +kernel
theorem dc_Dr_readFormula_37 : decode bc_Dr_readFormula 37 = .ok (.aload_n 1, 1) := by decide +kernel
theorem dc_Dr_readFormula_38 : decode bc_Dr_readFormula 38 = .ok (.invokevirtual 43, 3) := by decide +kernel
theorem dc_Dr_readFormula_41 : decode bc_Dr_readFormula 41 = .ok (.istore_n 3, 1) := by decide +kernel
theorem dc_Dr_readFormula_42 : decode bc_Dr_readFormula 42 = .ok (.aload_n 1, 1) := by decide +kernel
theorem dc_Dr_readFormula_43 : decode bc_Dr_readFormula 43 = .ok (.invokevirtual 47, 3) := by decide +kernel
theorem dc_Dr_readFormula_46 : decode bc_Dr_readFormula 46 = .ok (.iload_n 2, 1) := by decide +kernel
theorem dc_Dr_readFormula_47 : decode bc_Dr_readFormula 47 = .ok (.iconst 1, 1) := by decide +kernel
theorem dc_Dr_readFormula_48 : decode bc_Dr_readFormula 48 = .ok (.if_icmp .lt (19), 3) := by decide +kernel
theorem dc_Dr_readFormula_51 : decode bc_Dr_readFormula 51 = .ok (.iload_n 2, 1) := by decide +kernel
theorem dc_Dr_readFormula_52 : decode bc_Dr_readFormula 52 = .ok (.bipush (8), 2) := by decide +kernel
theorem dc_Dr_readFormula_54 : decode bc_Dr_readFormula 54 = .ok (.if_icmp .gt (13), 3) := by decide +kernel
theorem dc_Dr_readFormula_57 : decode bc_Dr_readFormula 57 = .ok (.iload_n 3, 1) := by decide +kernel
theorem dc_Dr_readFormula_58 : decode bc_Dr_readFormula 58 = .ok (.ifCond .lt (9), 3) := by decide +kernel
theorem dc_Dr_readFormula_61 : decode bc_Dr_readFormula 61 = .ok (.iload_n 3, 1) := by decide +kernel
theorem dc_Dr_readFormula_62 : decode bc_Dr_readFormula 62 = .ok (.bipush (16), 2) := by decide +kernel
theorem dc_Dr_readFormula_64 : decode bc_Dr_readFormula 64 = .ok (.if_icmp .le (5), 3) := by decide +kernel
theorem dc_Dr_readFormula_67 : decode bc_Dr_readFormula 67 = .ok (.iconst 0, 1) := by decide +kernel
theorem dc_Dr_readFormula_68 : decode bc_Dr_readFormula 68 = .ok (.ireturn, 1) := by decide +kernel
theorem dc_Dr_readFormula_69 : decode bc_Dr_readFormula 69 = .ok (.iconst 1, 1) := by decide +kernel
theorem dc_Dr_readFormula_70 : decode bc_Dr_readFormula 70 = .ok (.istore 4, 2) := by decide +kernel
theorem dc_Dr_readFormula_72 : decode bc_Dr_readFormula 72 = .ok (.iload 4, 2) := by decide +kernel
theorem dc_Dr_readFormula_74 : decode bc_Dr_readFormula 74 = .ok (.iload_n 3, 1) := by decide +kernel
theorem dc_Dr_readFormula_75 : decode bc_Dr_readFormula 75 = .ok (.if_icmp .gt (20), 3) := by decide +kernel
theorem dc_Dr_readFormula_78 : decode bc_Dr_readFormula 78 = .ok (.aload_n 0, 1) := by decide +kernel
theorem dc_Dr_readFormula_79 : decode bc_Dr_readFormula 79 = .ok (.aload_n 1, 1) := by decide +kernel
theorem dc_Dr_readFormula_80 : decode bc_Dr_readFormula 80 = .ok (.iload_n 2, 1) := by decide +kernel
theorem dc_Dr_readFormula_81 : decode bc_Dr_readFormula 81 = .ok (.invokevirtual 50, 3) := by decide +kernel
theorem dc_Dr_readFormula_84 : decode bc_Dr_readFormula 84 = .ok (.ifCond .ne (5), 3) := by decide +kernel
theorem dc_Dr_readFormula_87 : decode bc_Dr_readFormula 87 = .ok (.iconst 0, 1) := by decide +kernel
theorem dc_Dr_readFormula_88 : decode bc_Dr_readFormula 88 = .ok (.ireturn, 1) := by decide +kernel
theorem dc_Dr_readFormula_89 : decode bc_Dr_readFormula 89 = .ok (.iinc 4 (1), 3) := by decide +kernel
theorem dc_Dr_readFormula_92 : decode bc_Dr_readFormula 92 = .ok (.goto (-20), 3) := by decide +kernel
theorem dc_Dr_readFormula_95 : decode bc_Dr_readFormula 95 = .ok (.aload_n 1, 1) := by decide +kernel
theorem dc_Dr_readFormula_96 : decode bc_Dr_readFormula 96 = .ok (.invokevirtual 54, 3) := by decide +kernel
theorem dc_Dr_readFormula_99 : decode bc_Dr_readFormula 99 = .ok (.ifCond .ne (7), 3) := by decide +kernel
theorem dc_Dr_readFormula_102 : decode bc_Dr_readFormula 102 = .ok (.iconst 1, 1) := by decide +kernel
theorem dc_Dr_readFormula_103 : decode bc_Dr_readFormula 103 = .ok (.goto (4), 3) := by decide +kernel
theorem dc_Dr_readFormula_106 : decode bc_Dr_readFormula 106 = .ok (.iconst 0, 1) := by decide +kernel
theorem dc_Dr_readFormula_107 : decode bc_Dr_readFormula 107 = .ok (.ireturn, 1) := by decide +kernel
theorem dc_Dr_readProof_0 : decode bc_Dr_readProof 0 = .ok (.aload_n 0, 1) := by decide +kernel
theorem dc_Dr_readProof_1 : decode bc_Dr_readProof 1 = .ok (.getfield 20, 3) := by decide +kernel
theorem dc_Dr_readProof_4 : decode bc_Dr_readProof 4 = .ok (.iconst 0, 1) := by decide +kernel
theorem dc_Dr_readProof_5 : decode bc_Dr_readProof 5 = .ok (.invokevirtual 30, 3) := by decide +kernel
theorem dc_Dr_readProof_8 : decode bc_Dr_readProof 8 = .ok (.iconst 1, 1) := by decide +kernel
theorem dc_Dr_readProof_9 : decode bc_Dr_readProof 9 = .ok (.istore_n 2, 1) := by decide +kernel
theorem dc_Dr_readProof_10 : decode bc_Dr_readProof 10 = .ok (.iload_n 2, 1) := by decide +kernel
theorem dc_Dr_readProof_11 : decode bc_Dr_readProof 11 = .ok (.bipush (16), 2) := by decide +kernel
theorem dc_Dr_readProof_13 : decode bc_Dr_readProof 13 = .ok (.if_icmp .gt (40), 3) := by decide +kernel
theorem dc_Dr_readProof_16 : decode bc_Dr_readProof 16 = .ok (.aload_n 1, 1) := by decide +kernel
theorem dc_Dr_readProof_17 : decode bc_Dr_readProof 17 = .ok (.invokevirtual 54, 3) := by decide +kernel
theorem dc_Dr_readProof_20 : decode bc_Dr_readProof 20 = .ok (.ifCond .eq (33), 3) := by decide +kernel
theorem dc_Dr_readProof_23 : decode bc_Dr_readProof 23 = .ok (.aload_n 0, 1) := by decide +kernel
theorem dc_Dr_readProof_24 : decode bc_Dr_readProof 24 = .ok (.getfield 26, 3) := by decide +kernel
theorem dc_Dr_readProof_27 : decode bc_Dr_readProof 27 = .ok (.iload_n 2, 1) := by decide +kernel
theorem dc_Dr_readProof_28 : decode bc_Dr_readProof 28 = .ok (.aload_n 1, 1) := by decide +kernel
theorem dc_Dr_readProof_29 : decode bc_Dr_readProof 29 = .ok (.ldc 58, 2) := by decide +kernel
theorem dc_Dr_readProof_31 : decode bc_Dr_readProof 31 = .ok (.invokevirtual 35, 3) := by decide +kernel
theorem dc_Dr_readProof_34 : decode bc_Dr_readProof 34 = .ok (.bastore, 1) := by decide +kernel
theorem dc_Dr_readProof_35 : decode bc_Dr_readProof 35 = .ok (.aload_n 0, 1) := by decide +kernel
theorem dc_Dr_readProof_36 : decode bc_Dr_readProof 36 = .ok (.aload_n 1, 1) := by decide +kernel
theorem dc_Dr_readProof_37 : decode bc_Dr_readProof 37 = .ok (.bipush (8), 2) := by decide +kernel
theorem dc_Dr_readProof_39 : decode bc_Dr_readProof 39 = .ok (.invokevirtual 50, 3) := by decide +kernel
theorem dc_Dr_readProof_42 : decode bc_Dr_readProof 42 = .ok (.ifCond .ne (5), 3) := by decide +kernel
theorem dc_Dr_readProof_45 : decode bc_Dr_readProof 45 = .ok (.iconst 0, 1) := by decide +kernel
theorem dc_Dr_readProof_46 : decode bc_Dr_readProof 46 = .ok (.ireturn, 1) := by decide +kernel
theorem dc_Dr_readProof_47 : decode bc_Dr_readProof 47 = .ok (.iinc 2 (1), 3) := by decide +kernel
theorem dc_Dr_readProof_50 : decode bc_Dr_readProof 50 = .ok (.goto (-40), 3) := by decide +kernel
theorem dc_Dr_readProof_53 : decode bc_Dr_readProof 53 = .ok (.aload_n 1, 1) := by decide +kernel
theorem dc_Dr_readProof_54 : decode bc_Dr_readProof 54 = .ok (.invokevirtual 54, 3) := by decide +kernel
theorem dc_Dr_readProof_57 : decode bc_Dr_readProof 57 = .ok (.ifCond .ne (7), 3) := by decide +kernel
theorem dc_Dr_readProof_60 : decode bc_Dr_readProof 60 = .ok (.iconst 1, 1) := by decide +kernel
theorem dc_Dr_readProof_61 : decode bc_Dr_readProof 61 = .ok (.goto (4), 3) := by decide +kernel
theorem dc_Dr_readProof_64 : decode bc_Dr_readProof 64 = .ok (.iconst 0, 1) := by decide +kernel
theorem dc_Dr_readProof_65 : decode bc_Dr_readProof 65 = .ok (.ireturn, 1) := by decide +kernel
theorem dc_Dr_readPacked_0 : decode bc_Dr_readPacked 0 = .ok (.aload_n 0, 1) := by decide +kernel
theorem dc_Dr_readPacked_1 : decode bc_Dr_readPacked 1 = .ok (.getfield 20, 3) := by decide +kernel
theorem dc_Dr_readPacked_4 : decode bc_Dr_readPacked 4 = .ok (.iconst 0, 1) := by decide +kernel
theorem dc_Dr_readPacked_5 : decode bc_Dr_readPacked 5 = .ok (.invokevirtual 30, 3) := by decide +kernel
theorem dc_Dr_readPacked_8 : decode bc_Dr_readPacked 8 = .ok (.iconst 0, 1) := by decide +kernel
theorem dc_Dr_readPacked_9 : decode bc_Dr_readPacked 9 = .ok (.istore_n 2, 1) := by decide +kernel
theorem dc_Dr_readPacked_10 : decode bc_Dr_readPacked 10 = .ok (.iconst 1, 1) := by decide +kernel
theorem dc_Dr_readPacked_11 : decode bc_Dr_readPacked 11 = .ok (.istore_n 3, 1) := by decide +kernel
theorem dc_Dr_readPacked_12 : decode bc_Dr_readPacked 12 = .ok (.iload_n 3, 1) := by decide +kernel
theorem dc_Dr_readPacked_13 : decode bc_Dr_readPacked 13 = .ok (.bipush (16), 2) := by decide +kernel
theorem dc_Dr_readPacked_15 : decode bc_Dr_readPacked 15 = .ok (.if_icmp .gt (76), 3) := by decide +kernel
theorem dc_Dr_readPacked_18 : decode bc_Dr_readPacked 18 = .ok (.iload_n 2, 1) := by decide +kernel
theorem dc_Dr_readPacked_19 : decode bc_Dr_readPacked 19 = .ok (.aload_n 1, 1) := by decide +kernel
theorem dc_Dr_readPacked_20 : decode bc_Dr_readPacked 20 = .ok (.getfield 60, 3) := by decide +kernel
theorem dc_Dr_readPacked_23 : decode bc_Dr_readPacked 23 = .ok (.if_icmp .ge (68), 3) := by decide +kernel
theorem dc_Dr_readPacked_26 : decode bc_Dr_readPacked 26 = .ok (.aload_n 1, 1) := by decide +kernel
theorem dc_Dr_readPacked_27 : decode bc_Dr_readPacked 27 = .ok (.iload_n 2, 1) := by decide +kernel
theorem dc_Dr_readPacked_28 : decode bc_Dr_readPacked 28 = .ok (.invokevirtual 66, 3) := by decide +kernel
theorem dc_Dr_readPacked_31 : decode bc_Dr_readPacked 31 = .ok (.istore 4, 2) := by decide +kernel
theorem dc_Dr_readPacked_33 : decode bc_Dr_readPacked 33 = .ok (.iload 4, 2) := by decide +kernel
theorem dc_Dr_readPacked_35 : decode bc_Dr_readPacked 35 = .ok (.bipush (97), 2) := by decide +kernel
theorem dc_Dr_readPacked_37 : decode bc_Dr_readPacked 37 = .ok (.if_icmp .eq (12), 3) := by decide +kernel
theorem dc_Dr_readPacked_40 : decode bc_Dr_readPacked 40 = .ok (.iload 4, 2) := by decide +kernel
theorem dc_Dr_readPacked_42 : decode bc_Dr_readPacked 42 = .ok (.bipush (100), 2) := by decide +kernel
theorem dc_Dr_readPacked_44 : decode bc_Dr_readPacked 44 = .ok (.if_icmp .eq (5), 3) := by decide +kernel
theorem dc_Dr_readPacked_47 : decode bc_Dr_readPacked 47 = .ok (.iconst 0, 1) := by decide +kernel
theorem dc_Dr_readPacked_48 : decode bc_Dr_readPacked 48 = .ok (.ireturn, 1) := by decide +kernel
theorem dc_Dr_readPacked_49 : decode bc_Dr_readPacked 49 = .ok (.aload_n 0, 1) := by decide +kernel
theorem dc_Dr_readPacked_50 : decode bc_Dr_readPacked 50 = .ok (.getfield 26, 3) := by decide +kernel
theorem dc_Dr_readPacked_53 : decode bc_Dr_readPacked 53 = .ok (.iload_n 3, 1) := by decide +kernel
theorem dc_Dr_readPacked_54 : decode bc_Dr_readPacked 54 = .ok (.iload 4, 2) := by decide +kernel
theorem dc_Dr_readPacked_56 : decode bc_Dr_readPacked 56 = .ok (.bipush (100), 2) := by decide +kernel
theorem dc_Dr_readPacked_58 : decode bc_Dr_readPacked 58 = .ok (.if_icmp .ne (7), 3) := by decide +kernel
theorem dc_Dr_readPacked_61 : decode bc_Dr_readPacked 61 = .ok (.iconst 1, 1) := by decide +kernel
theorem dc_Dr_readPacked_62 : decode bc_Dr_readPacked 62 = .ok (.goto (4), 3) := by decide +kernel
theorem dc_Dr_readPacked_65 : decode bc_Dr_readPacked 65 = .ok (.iconst 0, 1) := by decide +kernel
theorem dc_Dr_readPacked_66 : decode bc_Dr_readPacked 66 = .ok (.bastore, 1) := by decide +kernel
theorem dc_Dr_readPacked_67 : decode bc_Dr_readPacked 67 = .ok (.aload_n 0, 1) := by decide +kernel
theorem dc_Dr_readPacked_68 : decode bc_Dr_readPacked 68 = .ok (.aload_n 1, 1) := by decide +kernel
theorem dc_Dr_readPacked_69 : decode bc_Dr_readPacked 69 = .ok (.iload_n 2, 1) := by decide +kernel
theorem dc_Dr_readPacked_70 : decode bc_Dr_readPacked 70 = .ok (.iconst 1, 1) := by decide +kernel
theorem dc_Dr_readPacked_71 : decode bc_Dr_readPacked 71 = .ok (.iadd, 1) := by decide +kernel
theorem dc_Dr_readPacked_72 : decode bc_Dr_readPacked 72 = .ok (.invokevirtual 70, 3) := by decide +kernel
theorem dc_Dr_readPacked_75 : decode bc_Dr_readPacked 75 = .ok (.istore_n 2, 1) := by decide +kernel
theorem dc_Dr_readPacked_76 : decode bc_Dr_readPacked 76 = .ok (.iload_n 2, 1) := by decide +kernel
theorem dc_Dr_readPacked_77 : decode bc_Dr_readPacked 77 = .ok (.sipush (-1000), 3) := by decide +kernel
theorem dc_Dr_readPacked_80 : decode bc_Dr_readPacked 80 = .ok (.if_icmp .ne (5), 3) := by decide +kernel
theorem dc_Dr_readPacked_83 : decode bc_Dr_readPacked 83 = .ok (.iconst 0, 1) := by decide +kernel
theorem dc_Dr_readPacked_84 : decode bc_Dr_readPacked 84 = .ok (.ireturn, 1) := by decide +kernel
theorem dc_Dr_readPacked_85 : decode bc_Dr_readPacked 85 = .ok (.iinc 3 (1), 3) := by decide +kernel
theorem dc_Dr_readPacked_88 : decode bc_Dr_readPacked 88 = .ok (.goto (-76), 3) := by decide +kernel
theorem dc_Dr_readPacked_91 : decode bc_Dr_readPacked 91 = .ok (.iload_n 2, 1) := by decide +kernel
theorem dc_Dr_readPacked_92 : decode bc_Dr_readPacked 92 = .ok (.aload_n 1, 1) := by decide +kernel
theorem dc_Dr_readPacked_93 : decode bc_Dr_readPacked 93 = .ok (.getfield 60, 3) := by decide +kernel
theorem dc_Dr_readPacked_96 : decode bc_Dr_readPacked 96 = .ok (.if_icmp .ne (7), 3) := by decide +kernel
theorem dc_Dr_readPacked_99 : decode bc_Dr_readPacked 99 = .ok (.iconst 1, 1) := by decide +kernel
theorem dc_Dr_readPacked_100 : decode bc_Dr_readPacked 100 = .ok (.goto (4), 3) := by decide +kernel
theorem dc_Dr_readPacked_103 : decode bc_Dr_readPacked 103 = .ok (.iconst 0, 1) := by decide +kernel
theorem dc_Dr_readPacked_104 : decode bc_Dr_readPacked 104 = .ok (.ireturn, 1) := by decide +kernel
set_option maxHeartbeats 4000000 in
set_option maxRecDepth 100000 in
theorem ct_Dr_readFormula (l : Launch) (D : va_G) (cI cZ : ClassId) (sz : Nat) (X Y : Nat → Nat) (xd : Nat) (xr : Nat) (da : Nat) (ra : Nat) (rb : Nat) (rd : Nat) (n : Nat) (fz : Nat → Nat) (fs : Nat → Nat) (fl : Nat → Int32) (xw : Nat) (xt : Nat) (ta : Nat) (tn : Nat) (t : Nat → Nat) (FF : pt_F6) (htn0 : tn ≤ 250) (ht : ∀ j, t j < 256) (hFF : pt_fml t tn fz fs fl = FF) : Met l yn_Dr_readFormula (Cond.code yn_Dr_readFormula bc_Dr_readFormula 5 (some .boolean) :: kx_all) ({ frames := 5, cells := 0, slots := 0, locals := 107 } : Room) (kq X Y [.ref xd, .ref xw] D cI cZ [dr_c xd xr da, cl_c xr ra rb rd n, ar_n cI ra 17 fz, ar_n cI rb 17 fs, ar_i cI rd (17 * 8) fl, wo_c xw xt (pt_ws t tn (0)) (pt_zz t tn (0)), tx_c xt ta tn, ar_n cI ta 250 t] sz) (kw_e (some (.int (kb_i FF.1))) D kc_l (fun ex : { e : Nat × (Nat → Nat) × (Nat → Nat) × (Nat → Int32) × Nat × Nat // FF.1 = true → e.1 = FF.2.1 ∧ e.2.1 = FF.2.2.2.1 ∧ e.2.2.1 = FF.2.2.2.2.1 ∧ e.2.2.2.1 = FF.2.2.2.2.2 } => [dr_c xd xr da, cl_c xr ra rb rd ex.1.1, ar_n cI ra 17 ex.1.2.1, ar_n cI rb 17 ex.1.2.2.1, ar_i cI rd (17 * 8) ex.1.2.2.2.1, wo_c xw xt ex.1.2.2.2.2.1 ex.1.2.2.2.2.2, tx_c xt ta tn, ar_n cI ta 250 t]) (va_A [dr_c xd xr da, cl_c xr ra rb rd n, ar_n cI ra 17 fz, ar_n cI rb 17 fs, ar_i cI rd (17 * 8) fl, wo_c xw xt (pt_ws t tn (0)) (pt_zz t tn (0)), tx_c xt ta tn, ar_n cI ta 250 t] sz)) 0 0 (va_A [dr_c xd xr da, cl_c xr ra rb rd n, ar_n cI ra 17 fz, ar_n cI rb 17 fs, ar_i cI rd (17 * 8) fl, wo_c xw xt (pt_ws t tn (0)) (pt_zz t tn (0)), tx_c xt ta tn, ar_n cI ta 250 t] sz) := by
  refine kx_metQw (Qc := kw_e (some (.int (kb_i FF.1))) D kc_l (fun ex : { e : Nat × (Nat → Nat) × (Nat → Nat) × (Nat → Int32) × Nat × Nat // FF.1 = true → e.1 = FF.2.1 ∧ e.2.1 = FF.2.2.2.1 ∧ e.2.2.1 = FF.2.2.2.2.1 ∧ e.2.2.2.1 = FF.2.2.2.2.2 } => [dr_c xd xr da, cl_c xr ra rb rd ex.1.1, ar_n cI ra 17 ex.1.2.1, ar_n cI rb 17 ex.1.2.2.1, ar_i cI rd (17 * 8) ex.1.2.2.2.1, wo_c xw xt ex.1.2.2.2.2.1 ex.1.2.2.2.2.2, tx_c xt ta tn, ar_n cI ta 250 t])) (by decide) (Nat.le_of_ble_eq_true rfl) ?_
  intro p e s m below meth c ls A hx hb hr hml hts hown hlocks hin hA hP hK hD hN hl hS hF
  have hown : s.vm.findClass rn_Dr = some m.cls := hown
  have hl : lv_has ls 5 [(0, .ref xd), (1, .ref xw)] := hl
  refine lv_aload_n hx hb dc_Dr_readFormula_0 rfl (lv_at hl 0 rfl) ?_
  refine va_get (ci := 3) (v := .ref xr) (C := rn_Dr) (T := fd_Dr) (N := 2) hx hb hts in_Dr hown hK hP 0 rfl rfl 0 (by decide) (hts _ wd_87) (fun _ h9 => h9) rfl dc_Dr_readFormula_1 ?_
  refine lv_iconst (v := nI 0) hx hb dc_Dr_readFormula_4 (by decide +kernel) ?_
  refine kw_call0 (wr := [dr_c xd xr da, ar_n cI ra 17 fz, ar_n cI rb 17 fs, ar_i cI rd (17 * 8) fl, wo_c xw xt (pt_ws t tn (0)) (pt_zz t tn (0)), tx_c xt ta tn, ar_n cI ta 250 t]) (ws' := [dr_c xd xr da, cl_c xr ra rb rd 0, ar_n cI ra 17 fz, ar_n cI rb 17 fs, ar_i cI rd (17 * 8) fl, wo_c xw xt (pt_ws t tn (0)) (pt_zz t tn (0)), tx_c xt ta tn, ar_n cI ta 250 t]) (va_runV (As := [.int (nI 0)]) (rest := []) ⟨hx, hb, hml, hown, hts⟩ (ct_Cl_keep l D cI cZ _ xr ra rb rd n 0) (cwV 1 hts (kx_gV wd_331 wd_332 wd_333 wd_4 wd_334) rfl rfl rfl ⟨rfl, yd_Cl_keep⟩ ⟨Nat.le_of_ble_eq_true rfl, Nat.le_of_ble_eq_true rfl⟩) (kp_V (q0 := 1) (ci := 2) hP hD hK hN [1] rfl rfl rfl rfl rfl) rfl rfl hl.1 rfl (lv_room (Nat.le_of_ble_eq_true rfl)) dc_Dr_readFormula_5 ⟨Nat.le_of_ble_eq_true rfl, Nat.le_of_ble_eq_true rfl⟩) hP hD hS hA [1] [0, 2, 3, 4, 5, 6, 7] [0, 7, 1, 2, 3, 4, 5, 6] rfl rfl rfl (by decide) rfl rfl (fun H locs hP hD hS => ?_)
  refine lv_aload_n hx hb dc_Dr_readFormula_8 rfl (lv_at hl 1 rfl) ?_
  rcases hw1 : pt_w1 t (pt_ws t tn (0)) (pt_zz t tn (0)) 112 with _ | _
  · have hFf : FF.1 = false := by rw [← hFF]; exact fok_f (fok_1 hw1)
    refine va_ldcS hx hb hown (kf_t0 hF) dc_Dr_readFormula_9 ?_
    refine kw_call1 (wr := [dr_c xd xr da, cl_c xr ra rb rd 0, ar_n cI ra 17 fz, ar_n cI rb 17 fs, ar_i cI rd (17 * 8) fl]) (ws' := [dr_c xd xr da, cl_c xr ra rb rd 0, ar_n cI ra 17 fz, ar_n cI rb 17 fs, ar_i cI rd (17 * 8) fl, wo_c xw xt (pt_ws t tn (0)) (pt_zz t tn (0)), tx_c xt ta tn, ar_n cI ta 250 t]) (va_runV (As := [.ref (X 0)]) (rest := []) ⟨hx, hb, hml, hown, hts⟩ (ct_Wd_skip_no l D cI cZ _ X Y xw xt ta 250 tn t (pt_ws t tn (0)) (pt_zz t tn (0)) 0 (by decide) (htn0) (ht) (ws_zz _ _ _) (zz_le (Nat.zero_le _)) (by decide) (by rw [wm_0 ht]; exact hw1)) (cwV 1 hts (kx_gV wd_336 wd_337 wd_338 wd_10 wd_339) rfl rfl rfl ⟨rfl, yd_Wd_skip⟩ ⟨Nat.le_of_ble_eq_true rfl, Nat.le_of_ble_eq_true rfl⟩) (kq_V (q0 := 5) (ci := 1) hP hD hK hN hF hS hA [5, 6, 7] rfl rfl rfl rfl rfl) rfl rfl hl.1 rfl (lv_room (Nat.le_of_ble_eq_true rfl)) dc_Dr_readFormula_11 ⟨Nat.le_of_ble_eq_true rfl, Nat.le_of_ble_eq_true rfl⟩) hP hD hS hA [5, 6, 7] [0, 1, 2, 3, 4] [0, 1, 2, 3, 4, 5, 6, 7] rfl rfl rfl (by decide) rfl rfl (fun H locs hP hD hS => ?_)
    refine kb_if_eq hx hb dc_Dr_readFormula_14 rfl (fun hc14 => ?_) (fun hc14 => ?_)
    · refine lv_iconst (v := nI 0) hx hb dc_Dr_readFormula_26 (by decide +kernel) ?_
      refine kn_top (y := kb_i false) (by decide +kernel) ?_
      exact ke_zret (x := ⟨(0, fz, fs, fl, pt_ws t tn (0), pt_zz t tn (0)), fun q9 => absurd q9 (by rw [hFf]; decide)⟩) hx hb hr hlocks hP hD hS dc_Dr_readFormula_27 (by rw [hFf]) (rfl)
    · exact absurd hc14 (by decide)
  · refine va_ldcS hx hb hown (kf_t0 hF) dc_Dr_readFormula_9 ?_
    refine kw_call1 (wr := [dr_c xd xr da, cl_c xr ra rb rd 0, ar_n cI ra 17 fz, ar_n cI rb 17 fs, ar_i cI rd (17 * 8) fl]) (ws' := [dr_c xd xr da, cl_c xr ra rb rd 0, ar_n cI ra 17 fz, ar_n cI rb 17 fs, ar_i cI rd (17 * 8) fl, wo_c xw xt (pt_ws t tn (pt_zz t tn (0))) (pt_we t tn (pt_ws t tn (pt_zz t tn (0)))), tx_c xt ta tn, ar_n cI ta 250 t]) (va_runV (As := [.ref (X 0)]) (rest := []) ⟨hx, hb, hml, hown, hts⟩ (ct_Wd_skip l D cI cZ _ X Y xw xt ta 250 tn t (pt_ws t tn (0)) (pt_zz t tn (0)) 0 (by decide) (htn0) (ht) (ws_zz _ _ _) (zz_le (Nat.zero_le _)) (by decide) (by rw [wm_0 ht]; exact hw1)) (cwV 1 hts (kx_gV wd_336 wd_337 wd_338 wd_10 wd_339) rfl rfl rfl ⟨rfl, yd_Wd_skip⟩ ⟨Nat.le_of_ble_eq_true rfl, Nat.le_of_ble_eq_true rfl⟩) (kq_V (q0 := 5) (ci := 1) hP hD hK hN hF hS hA [5, 6, 7] rfl rfl rfl rfl rfl) rfl rfl hl.1 rfl (lv_room (Nat.le_of_ble_eq_true rfl)) dc_Dr_readFormula_11 ⟨Nat.le_of_ble_eq_true rfl, Nat.le_of_ble_eq_true rfl⟩) hP hD hS hA [5, 6, 7] [0, 1, 2, 3, 4] [0, 1, 2, 3, 4, 5, 6, 7] rfl rfl rfl (by decide) rfl rfl (fun H locs hP hD hS => ?_)
    obtain ⟨qa, hqa⟩ : ∃ q, pt_zz t tn 0 = q := ⟨_, rfl⟩
    have hqat : qa ≤ tn := by rw [← hqa]; exact zz_le (Nat.zero_le _)
    rw [show pt_zz t tn (0) = qa from hqa] at hP hD
    have hP : va_P D kc_l [dr_c xd xr da, cl_c xr ra rb rd 0, ar_n cI ra 17 fz, ar_n cI rb 17 fs, ar_i cI rd (17 * 8) fl, wo_c xw xt (pt_ws t tn (qa)) (pt_zz t tn (qa)), tx_c xt ta tn, ar_n cI ta 250 t] H := hP
    have hD : va_D A [dr_c xd xr da, cl_c xr ra rb rd 0, ar_n cI ra 17 fz, ar_n cI rb 17 fs, ar_i cI rd (17 * 8) fl, wo_c xw xt (pt_ws t tn (qa)) (pt_zz t tn (qa)), tx_c xt ta tn, ar_n cI ta 250 t] := hD
    refine kb_if_eq hx hb dc_Dr_readFormula_14 rfl (fun hc14 => ?_) (fun hc14 => ?_)
    · exact absurd hc14 (by decide)
    · refine lv_aload_n hx hb dc_Dr_readFormula_17 rfl (lv_at hl 1 rfl) ?_
      rcases hw3 : pt_w3 t (pt_ws t tn (qa)) (pt_zz t tn (qa)) 99 110 102 with _ | _
      · have hFf : FF.1 = false := by rw [← hFF]; exact fok_f (fok_3 (by rw [hqa]; exact hw3))
        refine va_ldcS hx hb hown (kf_t1 hF) dc_Dr_readFormula_18 ?_
        refine kw_call1 (wr := [dr_c xd xr da, cl_c xr ra rb rd 0, ar_n cI ra 17 fz, ar_n cI rb 17 fs, ar_i cI rd (17 * 8) fl]) (ws' := [dr_c xd xr da, cl_c xr ra rb rd 0, ar_n cI ra 17 fz, ar_n cI rb 17 fs, ar_i cI rd (17 * 8) fl, wo_c xw xt (pt_ws t tn (qa)) (pt_zz t tn (qa)), tx_c xt ta tn, ar_n cI ta 250 t]) (va_runV (As := [.ref (X 1)]) (rest := []) ⟨hx, hb, hml, hown, hts⟩ (ct_Wd_skip_no l D cI cZ _ X Y xw xt ta 250 tn t (pt_ws t tn (qa)) (pt_zz t tn (qa)) 1 (by decide) (htn0) (ht) (ws_zz _ _ _) (zz_le hqat) (by decide) (by rw [wm_1 ht]; exact hw3)) (cwV 1 hts (kx_gV wd_336 wd_337 wd_338 wd_10 wd_339) rfl rfl rfl ⟨rfl, yd_Wd_skip⟩ ⟨Nat.le_of_ble_eq_true rfl, Nat.le_of_ble_eq_true rfl⟩) (kq_V (q0 := 5) (ci := 1) hP hD hK hN hF hS hA [5, 6, 7] rfl rfl rfl rfl rfl) rfl rfl hl.1 rfl (lv_room (Nat.le_of_ble_eq_true rfl)) dc_Dr_readFormula_20 ⟨Nat.le_of_ble_eq_true rfl, Nat.le_of_ble_eq_true rfl⟩) hP hD hS hA [5, 6, 7] [0, 1, 2, 3, 4] [0, 1, 2, 3, 4, 5, 6, 7] rfl rfl rfl (by decide) rfl rfl (fun H locs hP hD hS => ?_)
        refine kb_if_ne hx hb dc_Dr_readFormula_23 rfl (fun hc23 => ?_) (fun hc23 => ?_)
        · exact absurd hc23 (by decide)
        · refine lv_iconst (v := nI 0) hx hb dc_Dr_readFormula_26 (by decide +kernel) ?_
          refine kn_top (y := kb_i false) (by decide +kernel) ?_
          exact ke_zret (x := ⟨(0, fz, fs, fl, pt_ws t tn (qa), pt_zz t tn (qa)), fun q9 => absurd q9 (by rw [hFf]; decide)⟩) hx hb hr hlocks hP hD hS dc_Dr_readFormula_27 (by rw [hFf]) (rfl)
      · refine va_ldcS hx hb hown (kf_t1 hF) dc_Dr_readFormula_18 ?_
        refine kw_call1 (wr := [dr_c xd xr da, cl_c xr ra rb rd 0, ar_n cI ra 17 fz, ar_n cI rb 17 fs, ar_i cI rd (17 * 8) fl]) (ws' := [dr_c xd xr da, cl_c xr ra rb rd 0, ar_n cI ra 17 fz, ar_n cI rb 17 fs, ar_i cI rd (17 * 8) fl, wo_c xw xt (pt_ws t tn (pt_zz t tn (qa))) (pt_we t tn (pt_ws t tn (pt_zz t tn (qa)))), tx_c xt ta tn, ar_n cI ta 250 t]) (va_runV (As := [.ref (X 1)]) (rest := []) ⟨hx, hb, hml, hown, hts⟩ (ct_Wd_skip l D cI cZ _ X Y xw xt ta 250 tn t (pt_ws t tn (qa)) (pt_zz t tn (qa)) 1 (by decide) (htn0) (ht) (ws_zz _ _ _) (zz_le hqat) (by decide) (by rw [wm_1 ht]; exact hw3)) (cwV 1 hts (kx_gV wd_336 wd_337 wd_338 wd_10 wd_339) rfl rfl rfl ⟨rfl, yd_Wd_skip⟩ ⟨Nat.le_of_ble_eq_true rfl, Nat.le_of_ble_eq_true rfl⟩) (kq_V (q0 := 5) (ci := 1) hP hD hK hN hF hS hA [5, 6, 7] rfl rfl rfl rfl rfl) rfl rfl hl.1 rfl (lv_room (Nat.le_of_ble_eq_true rfl)) dc_Dr_readFormula_20 ⟨Nat.le_of_ble_eq_true rfl, Nat.le_of_ble_eq_true rfl⟩) hP hD hS hA [5, 6, 7] [0, 1, 2, 3, 4] [0, 1, 2, 3, 4, 5, 6, 7] rfl rfl rfl (by decide) rfl rfl (fun H locs hP hD hS => ?_)
        obtain ⟨qb, hqb⟩ : ∃ q, pt_zz t tn qa = q := ⟨_, rfl⟩
        have hqbt : qb ≤ tn := by rw [← hqb]; exact zz_le hqat
        rw [show pt_zz t tn (qa) = qb from hqb] at hP hD
        have hP : va_P D kc_l [dr_c xd xr da, cl_c xr ra rb rd 0, ar_n cI ra 17 fz, ar_n cI rb 17 fs, ar_i cI rd (17 * 8) fl, wo_c xw xt (pt_ws t tn (qb)) (pt_zz t tn (qb)), tx_c xt ta tn, ar_n cI ta 250 t] H := hP
        have hD : va_D A [dr_c xd xr da, cl_c xr ra rb rd 0, ar_n cI ra 17 fz, ar_n cI rb 17 fs, ar_i cI rd (17 * 8) fl, wo_c xw xt (pt_ws t tn (qb)) (pt_zz t tn (qb)), tx_c xt ta tn, ar_n cI ta 250 t] := hD
        refine kb_if_ne hx hb dc_Dr_readFormula_23 rfl (fun hc23 => ?_) (fun hc23 => ?_)
        · refine lv_aload_n hx hb dc_Dr_readFormula_28 rfl (lv_at hl 1 rfl) ?_
          refine kr_call1 (va_runV (As := []) (rest := []) ⟨hx, hb, hml, hown, hts⟩ (ct_Wd_integer l D cI cZ _ xw xt ta 250 tn t (pt_ws t tn (qb)) (pt_zz t tn (qb)) (by decide) (htn0) (ht) (ws_zz _ _ _) (zz_le hqbt) (ws_lt)) (cwV 0 hts (kx_gV wd_393 wd_394 wd_395 wd_10 wd_396) rfl rfl rfl ⟨rfl, yd_Wd_integer⟩ ⟨Nat.le_of_ble_eq_true rfl, Nat.le_of_ble_eq_true rfl⟩) (kp_V (q0 := 5) (ci := 1) hP hD hK hN [5, 6, 7] rfl rfl rfl rfl rfl) rfl rfl hl.1 rfl (lv_room (Nat.le_of_ble_eq_true rfl)) dc_Dr_readFormula_29 ⟨Nat.le_of_ble_eq_true rfl, Nat.le_of_ble_eq_true rfl⟩) ?_
          obtain ⟨ux, hpx⟩ : ∃ x, pt_intv t (pt_ws t tn (qb)) (pt_zz t tn (qb)) = x := ⟨_, rfl⟩
          refine kn_top (y := ux) hpx ?_
          refine lv_istore_n (lv' := [(2, .int ux), (0, .ref xd), (1, .ref xw)]) hx hb dc_Dr_readFormula_32 rfl hl (by decide) rfl (fun ls hl => ?_)
          refine lv_aload_n hx hb dc_Dr_readFormula_33 rfl (lv_at hl 2 rfl) ?_
          refine kw_call0 (wr := [dr_c xd xr da, cl_c xr ra rb rd 0, ar_n cI ra 17 fz, ar_n cI rb 17 fs, ar_i cI rd (17 * 8) fl]) (ws' := [dr_c xd xr da, cl_c xr ra rb rd 0, ar_n cI ra 17 fz, ar_n cI rb 17 fs, ar_i cI rd (17 * 8) fl, wo_c xw xt (pt_ws t tn (pt_zz t tn (qb))) (pt_we t tn (pt_ws t tn (pt_zz t tn (qb)))), tx_c xt ta tn, ar_n cI ta 250 t]) (va_runV (As := []) (rest := []) ⟨hx, hb, hml, hown, hts⟩ (ct_Wd_advance l D cI cZ _ xw xt ta 250 tn t (pt_ws t tn (qb)) (pt_zz t tn (qb)) (by decide) (htn0) (ht) (zz_le hqbt)) (cwV 0 hts (kx_gV wd_397 wd_389 wd_390 wd_10 wd_391) rfl rfl rfl ⟨rfl, yd_Wd_advance⟩ ⟨Nat.le_of_ble_eq_true rfl, Nat.le_of_ble_eq_true rfl⟩) (kp_V (q0 := 5) (ci := 1) hP hD hK hN [5, 6, 7] rfl rfl rfl rfl rfl) rfl rfl hl.1 rfl (lv_room (Nat.le_of_ble_eq_true rfl)) dc_Dr_readFormula_34 ⟨Nat.le_of_ble_eq_true rfl, Nat.le_of_ble_eq_true rfl⟩) hP hD hS hA [5, 6, 7] [0, 1, 2, 3, 4] [0, 1, 2, 3, 4, 5, 6, 7] rfl rfl rfl (by decide) rfl rfl (fun H locs hP hD hS => ?_)
          obtain ⟨qc, hqc⟩ : ∃ q, pt_zz t tn qb = q := ⟨_, rfl⟩
          have hqct : qc ≤ tn := by rw [← hqc]; exact zz_le hqbt
          rw [show pt_zz t tn (qb) = qc from hqc] at hP hD
          have hP : va_P D kc_l [dr_c xd xr da, cl_c xr ra rb rd 0, ar_n cI ra 17 fz, ar_n cI rb 17 fs, ar_i cI rd (17 * 8) fl, wo_c xw xt (pt_ws t tn (qc)) (pt_zz t tn (qc)), tx_c xt ta tn, ar_n cI ta 250 t] H := hP
          have hD : va_D A [dr_c xd xr da, cl_c xr ra rb rd 0, ar_n cI ra 17 fz, ar_n cI rb 17 fs, ar_i cI rd (17 * 8) fl, wo_c xw xt (pt_ws t tn (qc)) (pt_zz t tn (qc)), tx_c xt ta tn, ar_n cI ta 250 t] := hD
          refine lv_aload_n hx hb dc_Dr_readFormula_37 rfl (lv_at hl 2 rfl) ?_
          refine kr_call1 (va_runV (As := []) (rest := []) ⟨hx, hb, hml, hown, hts⟩ (ct_Wd_integer l D cI cZ _ xw xt ta 250 tn t (pt_ws t tn (qc)) (pt_zz t tn (qc)) (by decide) (htn0) (ht) (ws_zz _ _ _) (zz_le hqct) (ws_lt)) (cwV 0 hts (kx_gV wd_393 wd_394 wd_395 wd_10 wd_396) rfl rfl rfl ⟨rfl, yd_Wd_integer⟩ ⟨Nat.le_of_ble_eq_true rfl, Nat.le_of_ble_eq_true rfl⟩) (kp_V (q0 := 5) (ci := 1) hP hD hK hN [5, 6, 7] rfl rfl rfl rfl rfl) rfl rfl hl.1 rfl (lv_room (Nat.le_of_ble_eq_true rfl)) dc_Dr_readFormula_38 ⟨Nat.le_of_ble_eq_true rfl, Nat.le_of_ble_eq_true rfl⟩) ?_
          obtain ⟨uy, hpy⟩ : ∃ x, pt_intv t (pt_ws t tn (qc)) (pt_zz t tn (qc)) = x := ⟨_, rfl⟩
          refine kn_top (y := uy) hpy ?_
          refine lv_istore_n (lv' := [(3, .int uy), (2, .int ux), (0, .ref xd), (1, .ref xw)]) hx hb dc_Dr_readFormula_41 rfl hl (by decide) rfl (fun ls hl => ?_)
          refine lv_aload_n hx hb dc_Dr_readFormula_42 rfl (lv_at hl 3 rfl) ?_
          refine kw_call0 (wr := [dr_c xd xr da, cl_c xr ra rb rd 0, ar_n cI ra 17 fz, ar_n cI rb 17 fs, ar_i cI rd (17 * 8) fl]) (ws' := [dr_c xd xr da, cl_c xr ra rb rd 0, ar_n cI ra 17 fz, ar_n cI rb 17 fs, ar_i cI rd (17 * 8) fl, wo_c xw xt (pt_ws t tn (pt_zz t tn (qc))) (pt_we t tn (pt_ws t tn (pt_zz t tn (qc)))), tx_c xt ta tn, ar_n cI ta 250 t]) (va_runV (As := []) (rest := []) ⟨hx, hb, hml, hown, hts⟩ (ct_Wd_advance l D cI cZ _ xw xt ta 250 tn t (pt_ws t tn (qc)) (pt_zz t tn (qc)) (by decide) (htn0) (ht) (zz_le hqct)) (cwV 0 hts (kx_gV wd_397 wd_389 wd_390 wd_10 wd_391) rfl rfl rfl ⟨rfl, yd_Wd_advance⟩ ⟨Nat.le_of_ble_eq_true rfl, Nat.le_of_ble_eq_true rfl⟩) (kp_V (q0 := 5) (ci := 1) hP hD hK hN [5, 6, 7] rfl rfl rfl rfl rfl) rfl rfl hl.1 rfl (lv_room (Nat.le_of_ble_eq_true rfl)) dc_Dr_readFormula_43 ⟨Nat.le_of_ble_eq_true rfl, Nat.le_of_ble_eq_true rfl⟩) hP hD hS hA [5, 6, 7] [0, 1, 2, 3, 4] [0, 1, 2, 3, 4, 5, 6, 7] rfl rfl rfl (by decide) rfl rfl (fun H locs hP hD hS => ?_)
          obtain ⟨qd, hqd⟩ : ∃ q, pt_zz t tn qc = q := ⟨_, rfl⟩
          have hqdt : qd ≤ tn := by rw [← hqd]; exact zz_le hqct
          rw [show pt_zz t tn (qc) = qd from hqd] at hP hD
          have hP : va_P D kc_l [dr_c xd xr da, cl_c xr ra rb rd 0, ar_n cI ra 17 fz, ar_n cI rb 17 fs, ar_i cI rd (17 * 8) fl, wo_c xw xt (pt_ws t tn (qd)) (pt_zz t tn (qd)), tx_c xt ta tn, ar_n cI ta 250 t] H := hP
          have hD : va_D A [dr_c xd xr da, cl_c xr ra rb rd 0, ar_n cI ra 17 fz, ar_n cI rb 17 fs, ar_i cI rd (17 * 8) fl, wo_c xw xt (pt_ws t tn (qd)) (pt_zz t tn (qd)), tx_c xt ta tn, ar_n cI ta 250 t] := hD
          refine lv_iload_n hx hb dc_Dr_readFormula_46 rfl (lv_at hl 1 rfl) ?_
          refine lv_iconst (v := nI 1) hx hb dc_Dr_readFormula_47 (by decide +kernel) ?_
          refine lv_icmp_lt hx hb dc_Dr_readFormula_48 rfl (fun hc48 => ?_) (fun hc48 => ?_)
          · have hFf : FF.1 = false := by rw [← hFF]; exact fok_f (fok_n (by rw [hqa, hqb]; exact hpx) rfl (Or.inl hc48))
            refine lv_iconst (v := nI 0) hx hb dc_Dr_readFormula_67 (by decide +kernel) ?_
            refine kn_top (y := kb_i false) (by decide +kernel) ?_
            exact ke_zret (x := ⟨(0, fz, fs, fl, pt_ws t tn (qd), pt_zz t tn (qd)), fun q9 => absurd q9 (by rw [hFf]; decide)⟩) hx hb hr hlocks hP hD hS dc_Dr_readFormula_68 (by rw [hFf]) (rfl)
          · refine lv_iload_n hx hb dc_Dr_readFormula_51 rfl (lv_at hl 1 rfl) ?_
            refine lv_bipush (v := nI 8) hx hb dc_Dr_readFormula_52 (by decide +kernel) ?_
            refine lv_icmp_gt hx hb dc_Dr_readFormula_54 rfl (fun hc54 => ?_) (fun hc54 => ?_)
            · have hFf : FF.1 = false := by rw [← hFF]; exact fok_f (fok_n (by rw [hqa, hqb]; exact hpx) rfl (Or.inr (Or.inl hc54)))
              refine lv_iconst (v := nI 0) hx hb dc_Dr_readFormula_67 (by decide +kernel) ?_
              refine kn_top (y := kb_i false) (by decide +kernel) ?_
              exact ke_zret (x := ⟨(0, fz, fs, fl, pt_ws t tn (qd), pt_zz t tn (qd)), fun q9 => absurd q9 (by rw [hFf]; decide)⟩) hx hb hr hlocks hP hD hS dc_Dr_readFormula_68 (by rw [hFf]) (rfl)
            · refine lv_iload_n hx hb dc_Dr_readFormula_57 rfl (lv_at hl 0 rfl) ?_
              refine lv_if_lt hx hb dc_Dr_readFormula_58 rfl (fun hc58 => ?_) (fun hc58 => ?_)
              · have hFf : FF.1 = false := by rw [← hFF]; exact fok_f (fok_n rfl (by rw [hqa, hqb, hqc]; exact hpy) (Or.inr (Or.inr (Or.inl hc58))))
                refine lv_iconst (v := nI 0) hx hb dc_Dr_readFormula_67 (by decide +kernel) ?_
                refine kn_top (y := kb_i false) (by decide +kernel) ?_
                exact ke_zret (x := ⟨(0, fz, fs, fl, pt_ws t tn (qd), pt_zz t tn (qd)), fun q9 => absurd q9 (by rw [hFf]; decide)⟩) hx hb hr hlocks hP hD hS dc_Dr_readFormula_68 (by rw [hFf]) (rfl)
              · refine lv_iload_n hx hb dc_Dr_readFormula_61 rfl (lv_at hl 0 rfl) ?_
                refine lv_bipush (v := nI 16) hx hb dc_Dr_readFormula_62 (by decide +kernel) ?_
                refine lv_icmp_le hx hb dc_Dr_readFormula_64 rfl (fun hc64 => ?_) (fun hc64 => ?_)
                · obtain ⟨v, hv31, hve⟩ := nI_of (x := ux) (fun q9 => hc48 (ni_lt1 q9 1 (by decide)))
                  subst hve
                  obtain ⟨M, hM31, hMe⟩ := nI_of (x := uy) hc58
                  subst hMe
                  have hv1 : 1 ≤ v := (Nat.eq_zero_or_pos v).elim (fun q9 => absurd (by rw [q9]; decide +kernel) hc48) id
                  have hv8 : v ≤ 8 := Nat.le_of_not_lt (fun q9 => hc54 (i_lt q9 hv31))
                  have hM16 : M ≤ 16 := Nat.le_of_not_lt (fun q9 => absurd hc64 (Int32.not_le.mpr (i_lt q9 hM31)))
                  have hFY := fml_y hw1 (by rw [hqa]; exact hw3) (by rw [hqa, hqb]; exact hpx) (by rw [hqa, hqb, hqc]; exact hpy) hv1 hv8 hM16 (fz := fz) (fs := fs) (fl := fl) rfl
                  rw [hFF, hqa, hqb, hqc, hqd] at hFY
                  refine lv_iconst (v := nI 1) hx hb dc_Dr_readFormula_69 (by decide +kernel) ?_
                  refine lv_istore (lv' := [(4, .int (nI 1)), (3, .int (nI M)), (2, .int (nI v)), (0, .ref xd), (1, .ref xw)]) hx hb dc_Dr_readFormula_70 hl (by decide) rfl (fun ls hl => ?_)
                  have lp_72 : ∀ (K : Nat) (k : Nat) (q1 : Nat) (fz1 : Nat → Nat) (fs1 : Nat → Nat) (fl1 : Nat → Int32) (H : Heap) (locs : List Loc) (ls : Array Slot), M - k < K → va_P D kc_l [dr_c xd xr da, cl_c xr ra rb rd k, ar_n cI ra 17 fz1, ar_n cI rb 17 fs1, ar_i cI rd (17 * 8) fl1, wo_c xw xt (pt_ws t tn (q1)) (pt_zz t tn (q1)), tx_c xt ta tn, ar_n cI ta 250 t] H → va_D A [dr_c xd xr da, cl_c xr ra rb rd k, ar_n cI ra 17 fz1, ar_n cI rb 17 fs1, ar_i cI rd (17 * 8) fl1, wo_c xw xt (pt_ws t tn (q1)) (pt_zz t tn (q1)), tx_c xt ta tn, ar_n cI ta 250 t] → va_S A s.heap H locs → lv_has ls 5 [(4, .int (nI (k + 1))), (3, .int (nI M)), (2, .int (nI v)), (0, .ref xd), (1, .ref xw)] → (pt_rows t tn v (M - k) k q1 fz1 fs1 fl1 = pt_rows t tn v M 0 qd fz fs fl) → (k ≤ M) → (q1 ≤ tn) → W p l e ({ frames := 5, cells := 0, slots := 0, locals := 107 } : Room) s m ([.ref xd, .ref xw] : List Value).toArray below meth c H locs 0 0 (MQ below (kw_e (some (.int (kb_i FF.1))) D kc_l (fun ex : { e : Nat × (Nat → Nat) × (Nat → Nat) × (Nat → Int32) × Nat × Nat // FF.1 = true → e.1 = FF.2.1 ∧ e.2.1 = FF.2.2.2.1 ∧ e.2.2.1 = FF.2.2.2.2.1 ∧ e.2.2.2.1 = FF.2.2.2.2.2 } => [dr_c xd xr da, cl_c xr ra rb rd ex.1.1, ar_n cI ra 17 ex.1.2.1, ar_n cI rb 17 ex.1.2.2.1, ar_i cI rd (17 * 8) ex.1.2.2.2.1, wo_c xw xt ex.1.2.2.2.2.1 ex.1.2.2.2.2.2, tx_c xt ta tn, ar_n cI ta 250 t]) A) ([.ref xd, .ref xw] : List Value).toArray s 0 0 A) (F0 m 72 ls []) := by
                    intro K
                    induction K with
                    | zero =>
                      intro k q1 fz1 fs1 fl1 H locs ls hk
                      exact absurd hk (Nat.not_lt_zero _)
                    | succ K ih_72 =>
                      intro k q1 fz1 fs1 fl1 H locs ls hk hP hD hS hl h1 h2 h4
                      refine lv_iload hx hb dc_Dr_readFormula_72 (lv_at hl 0 rfl) ?_
                      refine lv_iload_n hx hb dc_Dr_readFormula_74 rfl (lv_at hl 1 rfl) ?_
                      refine kn_icmp_gt hx hb (by omega) (by omega) dc_Dr_readFormula_75 rfl (fun hc75 => ?_) (fun hc75 => ?_)
                      · refine lv_aload_n hx hb dc_Dr_readFormula_95 rfl (lv_at hl 4 rfl) ?_
                        refine kr_call1 (va_runV (As := []) (rest := []) ⟨hx, hb, hml, hown, hts⟩ (ct_Wd_hasWord l D cI cZ _ xw xt (pt_ws t tn (q1)) (pt_zz t tn (q1)) (by have := zz_le (t := t) h4; have := ws_zz t tn q1; omega) (by have := zz_le (t := t) h4; omega)) (cwV 0 hts (kx_gV wd_417 wd_418 wd_419 wd_10 wd_420) rfl rfl rfl ⟨rfl, yd_Wd_hasWord⟩ ⟨Nat.le_of_ble_eq_true rfl, Nat.le_of_ble_eq_true rfl⟩) (kp_V (q0 := 5) (ci := 1) hP hD hK hN [5] rfl rfl rfl rfl rfl) rfl rfl hl.1 rfl (lv_room (Nat.le_of_ble_eq_true rfl)) dc_Dr_readFormula_96 ⟨Nat.le_of_ble_eq_true rfl, Nat.le_of_ble_eq_true rfl⟩) ?_
                        refine kb_if_ne hx hb dc_Dr_readFormula_99 rfl (fun hc99 => ?_) (fun hc99 => ?_)
                        · have hFf : FF.1 = false := by rw [hFY, ← h1, rows_en (by omega)]; dsimp only; rw [hc99]; rfl
                          refine lv_iconst (v := nI 0) hx hb dc_Dr_readFormula_106 (by decide +kernel) ?_
                          refine kn_top (y := kb_i false) (by decide +kernel) ?_
                          exact ke_zret (x := ⟨(k, fz1, fs1, fl1, pt_ws t tn (q1), pt_zz t tn (q1)), fun q9 => absurd q9 (by rw [hFf]; decide)⟩) hx hb hr hlocks hP hD hS dc_Dr_readFormula_107 (by rw [hFf]) (rfl)
                        · have hFt : (true, k, q1, fz1, fs1, fl1) = FF := by rw [hFY, ← h1, rows_en (by omega)]; dsimp only; rw [hc99]; rfl
                          refine lv_iconst (v := nI 1) hx hb dc_Dr_readFormula_102 (by decide +kernel) ?_
                          refine lv_goto hx hb dc_Dr_readFormula_103 rfl ?_
                          refine kn_top (y := kb_i true) (by decide +kernel) ?_
                          exact ke_zret (x := ⟨(k, fz1, fs1, fl1, pt_ws t tn (q1), pt_zz t tn (q1)), fun _ => by rw [← hFt]; exact ⟨rfl, rfl, rfl, rfl⟩⟩) hx hb hr hlocks hP hD hS dc_Dr_readFormula_107 (by rw [← hFt]) (rfl)
                      · refine lv_aload_n hx hb dc_Dr_readFormula_78 rfl (lv_at hl 3 rfl) ?_
                        refine lv_aload_n hx hb dc_Dr_readFormula_79 rfl (lv_at hl 4 rfl) ?_
                        refine lv_iload_n hx hb dc_Dr_readFormula_80 rfl (lv_at hl 2 rfl) ?_
                        refine kw_call1 (wr := []) (ws' := [dr_c xd xr da, cl_c xr ra rb rd (k + 1), ar_n cI ra 17 ((pt_rc t tn v (k + 1) 9 q1 (va_up fz1 (k + 1) 0) (va_up fs1 (k + 1) 0) fl1).2.2.1), ar_n cI rb 17 ((pt_rc t tn v (k + 1) 9 q1 (va_up fz1 (k + 1) 0) (va_up fs1 (k + 1) 0) fl1).2.2.2.1), ar_i cI rd (17 * 8) ((pt_rc t tn v (k + 1) 9 q1 (va_up fz1 (k + 1) 0) (va_up fs1 (k + 1) 0) fl1).2.2.2.2), wo_c xw xt (pt_ws t tn ((pt_rc t tn v (k + 1) 9 q1 (va_up fz1 (k + 1) 0) (va_up fs1 (k + 1) 0) fl1).2.1)) (pt_zz t tn ((pt_rc t tn v (k + 1) 9 q1 (va_up fz1 (k + 1) 0) (va_up fs1 (k + 1) 0) fl1).2.1)), tx_c xt ta tn, ar_n cI ta 250 t]) (va_runV (As := [.ref xw, .int (nI v)]) (rest := []) ⟨hx, hb, hml, hown, hts⟩ (ct_Dr_readClause l D cI cZ _ xd xr da ra rb rd k fz1 fs1 fl1 xw q1 xt ta tn t v (by omega) (hv8) (htn0) (ht) (h4)) (cwV 2 hts (kx_gV wd_398 wd_400 (kx_sel (q := (yn_Dr_readClause, 2)) (List.mem_append_left _ (List.mem_of_getElem? (i := 0) rfl))) wd_3 wd_401) rfl rfl rfl ⟨rfl, yd_Dr_readClause⟩ ⟨Nat.le_of_ble_eq_true rfl, Nat.le_of_ble_eq_true rfl⟩) (kp_V (q0 := 0) (ci := 3) hP hD hK hN [0, 1, 2, 3, 4, 5, 6, 7] rfl rfl rfl rfl rfl) rfl rfl hl.1 rfl (lv_room (Nat.le_of_ble_eq_true rfl)) dc_Dr_readFormula_81 ⟨Nat.le_of_ble_eq_true rfl, Nat.le_of_ble_eq_true rfl⟩) hP hD hS hA [0, 1, 2, 3, 4, 5, 6, 7] [] [0, 1, 2, 3, 4, 5, 6, 7] rfl rfl rfl (by decide) rfl rfl (fun H locs hP hD hS => ?_)
                        obtain ⟨Z, hZ9⟩ : ∃ z, pt_rc t tn v (k + 1) 9 q1 (va_up fz1 (k + 1) 0) (va_up fs1 (k + 1) 0) fl1 = z := ⟨_, rfl⟩
                        rw [hZ9] at hP hD ⊢
                        refine kb_if_ne hx hb dc_Dr_readFormula_84 rfl (fun hc84 => ?_) (fun hc84 => ?_)
                        · refine lv_iinc (k := 0) (v := nI ((k + 1) + 1)) (lv' := [(4, .int (nI ((k + 1) + 1))), (3, .int (nI M)), (2, .int (nI v)), (0, .ref xd), (1, .ref xw)]) hx hb dc_Dr_readFormula_89 hl rfl (nI_1 _) (by decide) rfl (fun ls hl => ?_)
                          refine lv_goto hx hb dc_Dr_readFormula_92 rfl ?_
                          exact ih_72 _ _ _ _ _ _ _ _ (by omega) hP hD hS hl (by rw [← h1]; exact (rows_go (by omega) hZ9 hc84).symm) (by omega) (by rw [← hZ9]; exact rc_q h4)
                        · have hFf : FF.1 = false := by rw [hFY, ← h1, rows_bad (by omega) (by rw [hZ9]; exact hc84)]; rfl
                          refine lv_iconst (v := nI 0) hx hb dc_Dr_readFormula_87 (by decide +kernel) ?_
                          refine kn_top (y := kb_i false) (by decide +kernel) ?_
                          exact ke_zret (x := ⟨(k + 1, Z.2.2.1, Z.2.2.2.1, Z.2.2.2.2, pt_ws t tn (Z.2.1), pt_zz t tn (Z.2.1)), fun q9 => absurd q9 (by rw [hFf]; decide)⟩) hx hb hr hlocks hP hD hS dc_Dr_readFormula_88 (by rw [hFf]) (rfl)
                  exact lp_72 _ 0 qd fz fs fl _ _ _ (Nat.lt_succ_self _) hP hD hS hl (rfl) (by omega) (hqdt)
                · have hFf : FF.1 = false := by rw [← hFF]; exact fok_f (fok_n rfl (by rw [hqa, hqb, hqc]; exact hpy) (Or.inr (Or.inr (Or.inr (Int32.not_le.mp hc64)))))
                  refine lv_iconst (v := nI 0) hx hb dc_Dr_readFormula_67 (by decide +kernel) ?_
                  refine kn_top (y := kb_i false) (by decide +kernel) ?_
                  exact ke_zret (x := ⟨(0, fz, fs, fl, pt_ws t tn (qd), pt_zz t tn (qd)), fun q9 => absurd q9 (by rw [hFf]; decide)⟩) hx hb hr hlocks hP hD hS dc_Dr_readFormula_68 (by rw [hFf]) (rfl)
        · exact absurd hc23 (by decide)

set_option maxHeartbeats 4000000 in
set_option maxRecDepth 100000 in
theorem ct_Dr_readProof (l : Launch) (D : va_G) (cI cZ : ClassId) (sz : Nat) (X Y : Nat → Nat) (xd : Nat) (xr : Nat) (da : Nat) (ra : Nat) (rb : Nat) (rd : Nat) (n : Nat) (fz : Nat → Nat) (fs : Nat → Nat) (fl : Nat → Int32) (xw : Nat) (xt : Nat) (ta : Nat) (tn : Nat) (t : Nat → Nat) (dd : Nat → Bool) (FF : pt_Y) (htn0 : tn ≤ 250) (ht : ∀ j, t j < 256) (hFF : pt_prf t tn 16 0 0 fz fs fl dd = FF) : Met l yn_Dr_readProof (Cond.code yn_Dr_readProof bc_Dr_readProof 3 (some .boolean) :: kx_all) ({ frames := 5, cells := 0, slots := 0, locals := 107 } : Room) (kq X Y [.ref xd, .ref xw] D cI cZ [dr_c xd xr da, cl_c xr ra rb rd n, ar_n cI ra 17 fz, ar_n cI rb 17 fs, ar_i cI rd (17 * 8) fl, wo_c xw xt (pt_ws t tn (0)) (pt_zz t tn (0)), tx_c xt ta tn, ar_n cI ta 250 t, ar_b cZ da 17 dd] sz) (kw_e (some (.int (kb_i FF.1))) D kc_l (fun ex : { e : Nat × (Nat → Nat) × (Nat → Nat) × (Nat → Int32) × (Nat → Bool) × Nat × Nat // FF.1 = true → e.1 = FF.2.1 ∧ e.2.1 = FF.2.2.1 ∧ e.2.2.1 = FF.2.2.2.1 ∧ e.2.2.2.1 = FF.2.2.2.2.1 ∧ e.2.2.2.2.1 = FF.2.2.2.2.2 } => [dr_c xd xr da, cl_c xr ra rb rd ex.1.1, ar_n cI ra 17 ex.1.2.1, ar_n cI rb 17 ex.1.2.2.1, ar_i cI rd (17 * 8) ex.1.2.2.2.1, wo_c xw xt ex.1.2.2.2.2.2.1 ex.1.2.2.2.2.2.2, tx_c xt ta tn, ar_n cI ta 250 t, ar_b cZ da 17 ex.1.2.2.2.2.1]) (va_A [dr_c xd xr da, cl_c xr ra rb rd n, ar_n cI ra 17 fz, ar_n cI rb 17 fs, ar_i cI rd (17 * 8) fl, wo_c xw xt (pt_ws t tn (0)) (pt_zz t tn (0)), tx_c xt ta tn, ar_n cI ta 250 t, ar_b cZ da 17 dd] sz)) 0 0 (va_A [dr_c xd xr da, cl_c xr ra rb rd n, ar_n cI ra 17 fz, ar_n cI rb 17 fs, ar_i cI rd (17 * 8) fl, wo_c xw xt (pt_ws t tn (0)) (pt_zz t tn (0)), tx_c xt ta tn, ar_n cI ta 250 t, ar_b cZ da 17 dd] sz) := by
  refine kx_metQw (Qc := kw_e (some (.int (kb_i FF.1))) D kc_l (fun ex : { e : Nat × (Nat → Nat) × (Nat → Nat) × (Nat → Int32) × (Nat → Bool) × Nat × Nat // FF.1 = true → e.1 = FF.2.1 ∧ e.2.1 = FF.2.2.1 ∧ e.2.2.1 = FF.2.2.2.1 ∧ e.2.2.2.1 = FF.2.2.2.2.1 ∧ e.2.2.2.2.1 = FF.2.2.2.2.2 } => [dr_c xd xr da, cl_c xr ra rb rd ex.1.1, ar_n cI ra 17 ex.1.2.1, ar_n cI rb 17 ex.1.2.2.1, ar_i cI rd (17 * 8) ex.1.2.2.2.1, wo_c xw xt ex.1.2.2.2.2.2.1 ex.1.2.2.2.2.2.2, tx_c xt ta tn, ar_n cI ta 250 t, ar_b cZ da 17 ex.1.2.2.2.2.1])) (by decide) (Nat.le_of_ble_eq_true rfl) ?_
  intro p e s m below meth c ls A hx hb hr hml hts hown hlocks hin hA hP hK hD hN hl hS hF
  have hown : s.vm.findClass rn_Dr = some m.cls := hown
  have hl : lv_has ls 3 [(0, .ref xd), (1, .ref xw)] := hl
  refine lv_aload_n hx hb dc_Dr_readProof_0 rfl (lv_at hl 0 rfl) ?_
  refine va_get (ci := 3) (v := .ref xr) (C := rn_Dr) (T := fd_Dr) (N := 2) hx hb hts in_Dr hown hK hP 0 rfl rfl 0 (by decide) (hts _ wd_87) (fun _ h9 => h9) rfl dc_Dr_readProof_1 ?_
  refine lv_iconst (v := nI 0) hx hb dc_Dr_readProof_4 (by decide +kernel) ?_
  refine kw_call0 (wr := [dr_c xd xr da, ar_n cI ra 17 fz, ar_n cI rb 17 fs, ar_i cI rd (17 * 8) fl, wo_c xw xt (pt_ws t tn (0)) (pt_zz t tn (0)), tx_c xt ta tn, ar_n cI ta 250 t, ar_b cZ da 17 dd]) (ws' := [dr_c xd xr da, cl_c xr ra rb rd 0, ar_n cI ra 17 fz, ar_n cI rb 17 fs, ar_i cI rd (17 * 8) fl, wo_c xw xt (pt_ws t tn (0)) (pt_zz t tn (0)), tx_c xt ta tn, ar_n cI ta 250 t, ar_b cZ da 17 dd]) (va_runV (As := [.int (nI 0)]) (rest := []) ⟨hx, hb, hml, hown, hts⟩ (ct_Cl_keep l D cI cZ _ xr ra rb rd n 0) (cwV 1 hts (kx_gV wd_331 wd_332 wd_333 wd_4 wd_334) rfl rfl rfl ⟨rfl, yd_Cl_keep⟩ ⟨Nat.le_of_ble_eq_true rfl, Nat.le_of_ble_eq_true rfl⟩) (kp_V (q0 := 1) (ci := 2) hP hD hK hN [1] rfl rfl rfl rfl rfl) rfl rfl hl.1 rfl (lv_room (Nat.le_of_ble_eq_true rfl)) dc_Dr_readProof_5 ⟨Nat.le_of_ble_eq_true rfl, Nat.le_of_ble_eq_true rfl⟩) hP hD hS hA [1] [0, 2, 3, 4, 5, 6, 7, 8] [0, 8, 1, 2, 3, 4, 5, 6, 7] rfl rfl rfl (by decide) rfl rfl (fun H locs hP hD hS => ?_)
  refine lv_iconst (v := nI 1) hx hb dc_Dr_readProof_8 (by decide +kernel) ?_
  refine lv_istore_n (lv' := [(2, .int (nI 1)), (0, .ref xd), (1, .ref xw)]) hx hb dc_Dr_readProof_9 rfl hl (by decide) rfl (fun ls hl => ?_)
  have lp_10 : ∀ (K : Nat) (k : Nat) (q1 : Nat) (fz1 : Nat → Nat) (fs1 : Nat → Nat) (fl1 : Nat → Int32) (dd1 : Nat → Bool) (H : Heap) (locs : List Loc) (ls : Array Slot), 16 - k < K → va_P D kc_l [dr_c xd xr da, cl_c xr ra rb rd k, ar_n cI ra 17 fz1, ar_n cI rb 17 fs1, ar_i cI rd (17 * 8) fl1, wo_c xw xt (pt_ws t tn (q1)) (pt_zz t tn (q1)), tx_c xt ta tn, ar_n cI ta 250 t, ar_b cZ da 17 dd1] H → va_D A [dr_c xd xr da, cl_c xr ra rb rd k, ar_n cI ra 17 fz1, ar_n cI rb 17 fs1, ar_i cI rd (17 * 8) fl1, wo_c xw xt (pt_ws t tn (q1)) (pt_zz t tn (q1)), tx_c xt ta tn, ar_n cI ta 250 t, ar_b cZ da 17 dd1] → va_S A s.heap H locs → lv_has ls 3 [(2, .int (nI (k + 1))), (0, .ref xd), (1, .ref xw)] → (pt_prf t tn (16 - k) k q1 fz1 fs1 fl1 dd1 = FF) → (k ≤ 16) → (q1 ≤ tn) → W p l e ({ frames := 5, cells := 0, slots := 0, locals := 107 } : Room) s m ([.ref xd, .ref xw] : List Value).toArray below meth c H locs 0 0 (MQ below (kw_e (some (.int (kb_i FF.1))) D kc_l (fun ex : { e : Nat × (Nat → Nat) × (Nat → Nat) × (Nat → Int32) × (Nat → Bool) × Nat × Nat // FF.1 = true → e.1 = FF.2.1 ∧ e.2.1 = FF.2.2.1 ∧ e.2.2.1 = FF.2.2.2.1 ∧ e.2.2.2.1 = FF.2.2.2.2.1 ∧ e.2.2.2.2.1 = FF.2.2.2.2.2 } => [dr_c xd xr da, cl_c xr ra rb rd ex.1.1, ar_n cI ra 17 ex.1.2.1, ar_n cI rb 17 ex.1.2.2.1, ar_i cI rd (17 * 8) ex.1.2.2.2.1, wo_c xw xt ex.1.2.2.2.2.2.1 ex.1.2.2.2.2.2.2, tx_c xt ta tn, ar_n cI ta 250 t, ar_b cZ da 17 ex.1.2.2.2.2.1]) A) ([.ref xd, .ref xw] : List Value).toArray s 0 0 A) (F0 m 10 ls []) := by
    intro K
    induction K with
    | zero =>
      intro k q1 fz1 fs1 fl1 dd1 H locs ls hk
      exact absurd hk (Nat.not_lt_zero _)
    | succ K ih_10 =>
      intro k q1 fz1 fs1 fl1 dd1 H locs ls hk hP hD hS hl h1 h2 h4
      refine lv_iload_n hx hb dc_Dr_readProof_10 rfl (lv_at hl 0 rfl) ?_
      refine lv_bipush (v := nI 16) hx hb dc_Dr_readProof_11 (by decide +kernel) ?_
      refine kn_icmp_gt hx hb (by omega) (by omega) dc_Dr_readProof_13 rfl (fun hc13 => ?_) (fun hc13 => ?_)
      · refine lv_aload_n hx hb dc_Dr_readProof_53 rfl (lv_at hl 2 rfl) ?_
        refine kr_call1 (va_runV (As := []) (rest := []) ⟨hx, hb, hml, hown, hts⟩ (ct_Wd_hasWord l D cI cZ _ xw xt (pt_ws t tn (q1)) (pt_zz t tn (q1)) (by have := zz_le (t := t) h4; have := ws_zz t tn q1; omega) (by have := zz_le (t := t) h4; omega)) (cwV 0 hts (kx_gV wd_417 wd_418 wd_419 wd_10 wd_420) rfl rfl rfl ⟨rfl, yd_Wd_hasWord⟩ ⟨Nat.le_of_ble_eq_true rfl, Nat.le_of_ble_eq_true rfl⟩) (kp_V (q0 := 5) (ci := 1) hP hD hK hN [5] rfl rfl rfl rfl rfl) rfl rfl hl.1 rfl (lv_room (Nat.le_of_ble_eq_true rfl)) dc_Dr_readProof_54 ⟨Nat.le_of_ble_eq_true rfl, Nat.le_of_ble_eq_true rfl⟩) ?_
        refine kb_if_ne hx hb dc_Dr_readProof_57 rfl (fun hc57 => ?_) (fun hc57 => ?_)
        · have hFf : FF.1 = false := by rw [← h1]; exact prf_full (by omega) (of_decide_eq_true hc57)
          refine lv_iconst (v := nI 0) hx hb dc_Dr_readProof_64 (by decide +kernel) ?_
          refine kn_top (y := kb_i false) (by decide +kernel) ?_
          exact ke_zret (x := ⟨(k, fz1, fs1, fl1, dd1, pt_ws t tn (q1), pt_zz t tn (q1)), fun q9 => absurd q9 (by rw [hFf]; decide)⟩) hx hb hr hlocks hP hD hS dc_Dr_readProof_65 (by rw [hFf]) (rfl)
        · have hFt : (true, k, fz1, fs1, fl1, dd1) = FF := by rw [← h1]; exact (prf_en (of_decide_eq_false hc57)).symm
          refine lv_iconst (v := nI 1) hx hb dc_Dr_readProof_60 (by decide +kernel) ?_
          refine lv_goto hx hb dc_Dr_readProof_61 rfl ?_
          refine kn_top (y := kb_i true) (by decide +kernel) ?_
          exact ke_zret (x := ⟨(k, fz1, fs1, fl1, dd1, pt_ws t tn (q1), pt_zz t tn (q1)), fun _ => by rw [← hFt]; exact ⟨rfl, rfl, rfl, rfl, rfl⟩⟩) hx hb hr hlocks hP hD hS dc_Dr_readProof_65 (by rw [← hFt]) (rfl)
      · refine lv_aload_n hx hb dc_Dr_readProof_16 rfl (lv_at hl 2 rfl) ?_
        refine kr_call1 (va_runV (As := []) (rest := []) ⟨hx, hb, hml, hown, hts⟩ (ct_Wd_hasWord l D cI cZ _ xw xt (pt_ws t tn (q1)) (pt_zz t tn (q1)) (by have := zz_le (t := t) h4; have := ws_zz t tn q1; omega) (by have := zz_le (t := t) h4; omega)) (cwV 0 hts (kx_gV wd_417 wd_418 wd_419 wd_10 wd_420) rfl rfl rfl ⟨rfl, yd_Wd_hasWord⟩ ⟨Nat.le_of_ble_eq_true rfl, Nat.le_of_ble_eq_true rfl⟩) (kp_V (q0 := 5) (ci := 1) hP hD hK hN [5] rfl rfl rfl rfl rfl) rfl rfl hl.1 rfl (lv_room (Nat.le_of_ble_eq_true rfl)) dc_Dr_readProof_17 ⟨Nat.le_of_ble_eq_true rfl, Nat.le_of_ble_eq_true rfl⟩) ?_
        refine kb_if_eq hx hb dc_Dr_readProof_20 rfl (fun hc20 => ?_) (fun hc20 => ?_)
        · refine lv_aload_n hx hb dc_Dr_readProof_53 rfl (lv_at hl 2 rfl) ?_
          refine kr_call1 (va_runV (As := []) (rest := []) ⟨hx, hb, hml, hown, hts⟩ (ct_Wd_hasWord l D cI cZ _ xw xt (pt_ws t tn (q1)) (pt_zz t tn (q1)) (by have := zz_le (t := t) h4; have := ws_zz t tn q1; omega) (by have := zz_le (t := t) h4; omega)) (cwV 0 hts (kx_gV wd_417 wd_418 wd_419 wd_10 wd_420) rfl rfl rfl ⟨rfl, yd_Wd_hasWord⟩ ⟨Nat.le_of_ble_eq_true rfl, Nat.le_of_ble_eq_true rfl⟩) (kp_V (q0 := 5) (ci := 1) hP hD hK hN [5] rfl rfl rfl rfl rfl) rfl rfl hl.1 rfl (lv_room (Nat.le_of_ble_eq_true rfl)) dc_Dr_readProof_54 ⟨Nat.le_of_ble_eq_true rfl, Nat.le_of_ble_eq_true rfl⟩) ?_
          refine kb_if_ne hx hb dc_Dr_readProof_57 rfl (fun hc57 => ?_) (fun hc57 => ?_)
          · exact absurd hc57 (by rw [hc20]; decide)
          · have hFt : (true, k, fz1, fs1, fl1, dd1) = FF := by rw [← h1]; exact (prf_en (of_decide_eq_false hc57)).symm
            refine lv_iconst (v := nI 1) hx hb dc_Dr_readProof_60 (by decide +kernel) ?_
            refine lv_goto hx hb dc_Dr_readProof_61 rfl ?_
            refine kn_top (y := kb_i true) (by decide +kernel) ?_
            exact ke_zret (x := ⟨(k, fz1, fs1, fl1, dd1, pt_ws t tn (q1), pt_zz t tn (q1)), fun _ => by rw [← hFt]; exact ⟨rfl, rfl, rfl, rfl, rfl⟩⟩) hx hb hr hlocks hP hD hS dc_Dr_readProof_65 (by rw [← hFt]) (rfl)
        · have hwd := of_decide_eq_true hc20
          rcases hd9 : pt_w1 t (pt_ws t tn (q1)) (pt_zz t tn (q1)) 100 with _ | _
          · have hq2 : (if pt_w1 t (pt_ws t tn (q1)) (pt_zz t tn (q1)) 100 = true then pt_zz t tn (q1) else q1) = q1 := by rw [hd9]; rfl
            refine lv_aload_n hx hb dc_Dr_readProof_23 rfl (lv_at hl 1 rfl) ?_
            refine va_get (ci := 3) (v := .ref da) (C := rn_Dr) (T := fd_Dr) (N := 2) hx hb hts in_Dr hown hK hP 0 rfl rfl 1 (by decide) (hts _ wd_90) (fun _ h9 => h9) rfl dc_Dr_readProof_24 ?_
            refine lv_iload_n hx hb dc_Dr_readProof_27 rfl (lv_at hl 0 rfl) ?_
            refine lv_aload_n hx hb dc_Dr_readProof_28 rfl (lv_at hl 2 rfl) ?_
            refine va_ldcS hx hb hown (kf_t2 hF) dc_Dr_readProof_29 ?_
            refine kw_call1 (wr := [dr_c xd xr da, cl_c xr ra rb rd k, ar_n cI ra 17 fz1, ar_n cI rb 17 fs1, ar_i cI rd (17 * 8) fl1, ar_b cZ da 17 dd1]) (ws' := [dr_c xd xr da, cl_c xr ra rb rd k, ar_n cI ra 17 fz1, ar_n cI rb 17 fs1, ar_i cI rd (17 * 8) fl1, wo_c xw xt (pt_ws t tn (q1)) (pt_zz t tn (q1)), tx_c xt ta tn, ar_n cI ta 250 t, ar_b cZ da 17 dd1]) (va_runV (As := [.ref (X 2)]) (rest := [.int (nI (k + 1)), .ref da]) ⟨hx, hb, hml, hown, hts⟩ (ct_Wd_skip_no l D cI cZ _ X Y xw xt ta 250 tn t (pt_ws t tn (q1)) (pt_zz t tn (q1)) 2 (by decide) (htn0) (ht) (ws_zz _ _ _) (zz_le h4) (by decide) (by rw [wm_2 ht]; exact hd9)) (cwV 1 hts (kx_gV wd_336 wd_337 wd_338 wd_10 wd_339) rfl rfl rfl ⟨rfl, yd_Wd_skip⟩ ⟨Nat.le_of_ble_eq_true rfl, Nat.le_of_ble_eq_true rfl⟩) (kq_V (q0 := 5) (ci := 1) hP hD hK hN hF hS hA [5, 6, 7] rfl rfl rfl rfl rfl) rfl rfl hl.1 rfl (lv_room (Nat.le_of_ble_eq_true rfl)) dc_Dr_readProof_31 ⟨Nat.le_of_ble_eq_true rfl, Nat.le_of_ble_eq_true rfl⟩) hP hD hS hA [5, 6, 7] [0, 1, 2, 3, 4, 8] [0, 1, 2, 3, 4, 6, 7, 8, 5] rfl rfl rfl (by decide) rfl rfl (fun H locs hP hD hS => ?_)
            refine ka_bast (t := dd1) hx hb hK hP hD hS 8 1 rfl rfl (j := k + 1) (by omega) (by omega) dc_Dr_readProof_34 (ws' := [dr_c xd xr da, cl_c xr ra rb rd k, ar_n cI ra 17 fz1, ar_n cI rb 17 fs1, ar_i cI rd (17 * 8) fl1, wo_c xw xt (pt_ws t tn (q1)) (pt_zz t tn (q1)), tx_c xt ta tn, ar_n cI ta 250 t, ar_b cZ da 17 (va_up dd1 (k + 1) false)]) rfl (fun H locs hP hD hS => ?_)
            refine lv_aload_n hx hb dc_Dr_readProof_35 rfl (lv_at hl 1 rfl) ?_
            refine lv_aload_n hx hb dc_Dr_readProof_36 rfl (lv_at hl 2 rfl) ?_
            refine lv_bipush (v := nI 8) hx hb dc_Dr_readProof_37 (by decide +kernel) ?_
            refine kw_call1 (wr := [ar_b cZ da 17 (va_up dd1 (k + 1) false)]) (ws' := [dr_c xd xr da, cl_c xr ra rb rd (k + 1), ar_n cI ra 17 ((pt_rc t tn 8 (k + 1) 9 q1 (va_up fz1 (k + 1) 0) (va_up fs1 (k + 1) 0) fl1).2.2.1), ar_n cI rb 17 ((pt_rc t tn 8 (k + 1) 9 q1 (va_up fz1 (k + 1) 0) (va_up fs1 (k + 1) 0) fl1).2.2.2.1), ar_i cI rd (17 * 8) ((pt_rc t tn 8 (k + 1) 9 q1 (va_up fz1 (k + 1) 0) (va_up fs1 (k + 1) 0) fl1).2.2.2.2), wo_c xw xt (pt_ws t tn ((pt_rc t tn 8 (k + 1) 9 q1 (va_up fz1 (k + 1) 0) (va_up fs1 (k + 1) 0) fl1).2.1)) (pt_zz t tn ((pt_rc t tn 8 (k + 1) 9 q1 (va_up fz1 (k + 1) 0) (va_up fs1 (k + 1) 0) fl1).2.1)), tx_c xt ta tn, ar_n cI ta 250 t, ar_b cZ da 17 (va_up dd1 (k + 1) false)]) (va_runV (As := [.ref xw, .int (nI 8)]) (rest := []) ⟨hx, hb, hml, hown, hts⟩ (ct_Dr_readClause l D cI cZ _ xd xr da ra rb rd k fz1 fs1 fl1 xw q1 xt ta tn t 8 (by omega) (by decide) (htn0) (ht) (h4)) (cwV 2 hts (kx_gV wd_398 wd_400 (kx_sel (q := (yn_Dr_readClause, 2)) (List.mem_append_left _ (List.mem_of_getElem? (i := 0) rfl))) wd_3 wd_401) rfl rfl rfl ⟨rfl, yd_Dr_readClause⟩ ⟨Nat.le_of_ble_eq_true rfl, Nat.le_of_ble_eq_true rfl⟩) (kp_V (q0 := 0) (ci := 3) hP hD hK hN [0, 1, 2, 3, 4, 5, 6, 7] rfl rfl rfl rfl rfl) rfl rfl hl.1 rfl (lv_room (Nat.le_of_ble_eq_true rfl)) dc_Dr_readProof_39 ⟨Nat.le_of_ble_eq_true rfl, Nat.le_of_ble_eq_true rfl⟩) hP hD hS hA [0, 1, 2, 3, 4, 5, 6, 7] [8] [1, 2, 3, 4, 5, 6, 7, 8, 0] rfl rfl rfl (by decide) rfl rfl (fun H locs hP hD hS => ?_)
            obtain ⟨Z, hZ9⟩ : ∃ z, pt_rc t tn 8 (k + 1) 9 q1 (va_up fz1 (k + 1) 0) (va_up fs1 (k + 1) 0) fl1 = z := ⟨_, rfl⟩
            rw [hZ9] at hP hD ⊢
            refine kb_if_ne hx hb dc_Dr_readProof_42 rfl (fun hc42 => ?_) (fun hc42 => ?_)
            · refine lv_iinc (k := 0) (v := nI ((k + 1) + 1)) (lv' := [(2, .int (nI ((k + 1) + 1))), (0, .ref xd), (1, .ref xw)]) hx hb dc_Dr_readProof_47 hl rfl (nI_1 _) (by decide) rfl (fun ls hl => ?_)
              refine lv_goto hx hb dc_Dr_readProof_50 rfl ?_
              exact ih_10 _ _ _ _ _ _ _ _ _ (by omega) hP hD hS hl (by rw [← h1, prf_go (by omega) hwd hq2 hZ9 hc42, hd9]) (by omega) (by rw [← hZ9]; exact rc_q h4)
            · have hFf : FF.1 = false := by rw [← h1]; exact prf_bad hwd hq2 (fun _ => by rw [hZ9]; exact hc42)
              refine lv_iconst (v := nI 0) hx hb dc_Dr_readProof_45 (by decide +kernel) ?_
              refine kn_top (y := kb_i false) (by decide +kernel) ?_
              exact ke_zret (x := ⟨(k + 1, Z.2.2.1, Z.2.2.2.1, Z.2.2.2.2, va_up dd1 (k + 1) false, pt_ws t tn (Z.2.1), pt_zz t tn (Z.2.1)), fun q9 => absurd q9 (by rw [hFf]; decide)⟩) hx hb hr hlocks hP hD hS dc_Dr_readProof_46 (by rw [hFf]) (rfl)
          · have hq2 : (if pt_w1 t (pt_ws t tn (q1)) (pt_zz t tn (q1)) 100 = true then pt_zz t tn (q1) else q1) = pt_zz t tn (q1) := by rw [hd9]; rfl
            refine lv_aload_n hx hb dc_Dr_readProof_23 rfl (lv_at hl 1 rfl) ?_
            refine va_get (ci := 3) (v := .ref da) (C := rn_Dr) (T := fd_Dr) (N := 2) hx hb hts in_Dr hown hK hP 0 rfl rfl 1 (by decide) (hts _ wd_90) (fun _ h9 => h9) rfl dc_Dr_readProof_24 ?_
            refine lv_iload_n hx hb dc_Dr_readProof_27 rfl (lv_at hl 0 rfl) ?_
            refine lv_aload_n hx hb dc_Dr_readProof_28 rfl (lv_at hl 2 rfl) ?_
            refine va_ldcS hx hb hown (kf_t2 hF) dc_Dr_readProof_29 ?_
            refine kw_call1 (wr := [dr_c xd xr da, cl_c xr ra rb rd k, ar_n cI ra 17 fz1, ar_n cI rb 17 fs1, ar_i cI rd (17 * 8) fl1, ar_b cZ da 17 dd1]) (ws' := [dr_c xd xr da, cl_c xr ra rb rd k, ar_n cI ra 17 fz1, ar_n cI rb 17 fs1, ar_i cI rd (17 * 8) fl1, wo_c xw xt (pt_ws t tn (pt_zz t tn (q1))) (pt_we t tn (pt_ws t tn (pt_zz t tn (q1)))), tx_c xt ta tn, ar_n cI ta 250 t, ar_b cZ da 17 dd1]) (va_runV (As := [.ref (X 2)]) (rest := [.int (nI (k + 1)), .ref da]) ⟨hx, hb, hml, hown, hts⟩ (ct_Wd_skip l D cI cZ _ X Y xw xt ta 250 tn t (pt_ws t tn (q1)) (pt_zz t tn (q1)) 2 (by decide) (htn0) (ht) (ws_zz _ _ _) (zz_le h4) (by decide) (by rw [wm_2 ht]; exact hd9)) (cwV 1 hts (kx_gV wd_336 wd_337 wd_338 wd_10 wd_339) rfl rfl rfl ⟨rfl, yd_Wd_skip⟩ ⟨Nat.le_of_ble_eq_true rfl, Nat.le_of_ble_eq_true rfl⟩) (kq_V (q0 := 5) (ci := 1) hP hD hK hN hF hS hA [5, 6, 7] rfl rfl rfl rfl rfl) rfl rfl hl.1 rfl (lv_room (Nat.le_of_ble_eq_true rfl)) dc_Dr_readProof_31 ⟨Nat.le_of_ble_eq_true rfl, Nat.le_of_ble_eq_true rfl⟩) hP hD hS hA [5, 6, 7] [0, 1, 2, 3, 4, 8] [0, 1, 2, 3, 4, 6, 7, 8, 5] rfl rfl rfl (by decide) rfl rfl (fun H locs hP hD hS => ?_)
            have hP : va_P D kc_l [dr_c xd xr da, cl_c xr ra rb rd k, ar_n cI ra 17 fz1, ar_n cI rb 17 fs1, ar_i cI rd (17 * 8) fl1, wo_c xw xt (pt_ws t tn (pt_zz t tn (q1))) (pt_zz t tn (pt_zz t tn (q1))), tx_c xt ta tn, ar_n cI ta 250 t, ar_b cZ da 17 dd1] H := hP
            have hD : va_D A [dr_c xd xr da, cl_c xr ra rb rd k, ar_n cI ra 17 fz1, ar_n cI rb 17 fs1, ar_i cI rd (17 * 8) fl1, wo_c xw xt (pt_ws t tn (pt_zz t tn (q1))) (pt_zz t tn (pt_zz t tn (q1))), tx_c xt ta tn, ar_n cI ta 250 t, ar_b cZ da 17 dd1] := hD
            refine ka_bast (t := dd1) hx hb hK hP hD hS 8 1 rfl rfl (j := k + 1) (by omega) (by omega) dc_Dr_readProof_34 (ws' := [dr_c xd xr da, cl_c xr ra rb rd k, ar_n cI ra 17 fz1, ar_n cI rb 17 fs1, ar_i cI rd (17 * 8) fl1, wo_c xw xt (pt_ws t tn (pt_zz t tn (q1))) (pt_zz t tn (pt_zz t tn (q1))), tx_c xt ta tn, ar_n cI ta 250 t, ar_b cZ da 17 (va_up dd1 (k + 1) true)]) rfl (fun H locs hP hD hS => ?_)
            refine lv_aload_n hx hb dc_Dr_readProof_35 rfl (lv_at hl 1 rfl) ?_
            refine lv_aload_n hx hb dc_Dr_readProof_36 rfl (lv_at hl 2 rfl) ?_
            refine lv_bipush (v := nI 8) hx hb dc_Dr_readProof_37 (by decide +kernel) ?_
            refine kw_call1 (wr := [ar_b cZ da 17 (va_up dd1 (k + 1) true)]) (ws' := [dr_c xd xr da, cl_c xr ra rb rd (k + 1), ar_n cI ra 17 ((pt_rc t tn 8 (k + 1) 9 (pt_zz t tn (q1)) (va_up fz1 (k + 1) 0) (va_up fs1 (k + 1) 0) fl1).2.2.1), ar_n cI rb 17 ((pt_rc t tn 8 (k + 1) 9 (pt_zz t tn (q1)) (va_up fz1 (k + 1) 0) (va_up fs1 (k + 1) 0) fl1).2.2.2.1), ar_i cI rd (17 * 8) ((pt_rc t tn 8 (k + 1) 9 (pt_zz t tn (q1)) (va_up fz1 (k + 1) 0) (va_up fs1 (k + 1) 0) fl1).2.2.2.2), wo_c xw xt (pt_ws t tn ((pt_rc t tn 8 (k + 1) 9 (pt_zz t tn (q1)) (va_up fz1 (k + 1) 0) (va_up fs1 (k + 1) 0) fl1).2.1)) (pt_zz t tn ((pt_rc t tn 8 (k + 1) 9 (pt_zz t tn (q1)) (va_up fz1 (k + 1) 0) (va_up fs1 (k + 1) 0) fl1).2.1)), tx_c xt ta tn, ar_n cI ta 250 t, ar_b cZ da 17 (va_up dd1 (k + 1) true)]) (va_runV (As := [.ref xw, .int (nI 8)]) (rest := []) ⟨hx, hb, hml, hown, hts⟩ (ct_Dr_readClause l D cI cZ _ xd xr da ra rb rd k fz1 fs1 fl1 xw (pt_zz t tn (q1)) xt ta tn t 8 (by omega) (by decide) (htn0) (ht) (zz_le h4)) (cwV 2 hts (kx_gV wd_398 wd_400 (kx_sel (q := (yn_Dr_readClause, 2)) (List.mem_append_left _ (List.mem_of_getElem? (i := 0) rfl))) wd_3 wd_401) rfl rfl rfl ⟨rfl, yd_Dr_readClause⟩ ⟨Nat.le_of_ble_eq_true rfl, Nat.le_of_ble_eq_true rfl⟩) (kp_V (q0 := 0) (ci := 3) hP hD hK hN [0, 1, 2, 3, 4, 5, 6, 7] rfl rfl rfl rfl rfl) rfl rfl hl.1 rfl (lv_room (Nat.le_of_ble_eq_true rfl)) dc_Dr_readProof_39 ⟨Nat.le_of_ble_eq_true rfl, Nat.le_of_ble_eq_true rfl⟩) hP hD hS hA [0, 1, 2, 3, 4, 5, 6, 7] [8] [1, 2, 3, 4, 5, 6, 7, 8, 0] rfl rfl rfl (by decide) rfl rfl (fun H locs hP hD hS => ?_)
            obtain ⟨Z, hZ9⟩ : ∃ z, pt_rc t tn 8 (k + 1) 9 (pt_zz t tn (q1)) (va_up fz1 (k + 1) 0) (va_up fs1 (k + 1) 0) fl1 = z := ⟨_, rfl⟩
            rw [hZ9] at hP hD ⊢
            refine kb_if_ne hx hb dc_Dr_readProof_42 rfl (fun hc42 => ?_) (fun hc42 => ?_)
            · refine lv_iinc (k := 0) (v := nI ((k + 1) + 1)) (lv' := [(2, .int (nI ((k + 1) + 1))), (0, .ref xd), (1, .ref xw)]) hx hb dc_Dr_readProof_47 hl rfl (nI_1 _) (by decide) rfl (fun ls hl => ?_)
              refine lv_goto hx hb dc_Dr_readProof_50 rfl ?_
              exact ih_10 _ _ _ _ _ _ _ _ _ (by omega) hP hD hS hl (by rw [← h1, prf_go (by omega) hwd hq2 hZ9 hc42, hd9]) (by omega) (by rw [← hZ9]; exact rc_q (zz_le h4))
            · have hFf : FF.1 = false := by rw [← h1]; exact prf_bad hwd hq2 (fun _ => by rw [hZ9]; exact hc42)
              refine lv_iconst (v := nI 0) hx hb dc_Dr_readProof_45 (by decide +kernel) ?_
              refine kn_top (y := kb_i false) (by decide +kernel) ?_
              exact ke_zret (x := ⟨(k + 1, Z.2.2.1, Z.2.2.2.1, Z.2.2.2.2, va_up dd1 (k + 1) true, pt_ws t tn (Z.2.1), pt_zz t tn (Z.2.1)), fun q9 => absurd q9 (by rw [hFf]; decide)⟩) hx hb hr hlocks hP hD hS dc_Dr_readProof_46 (by rw [hFf]) (rfl)
  exact lp_10 _ 0 0 fz fs fl dd _ _ _ (Nat.lt_succ_self _) hP hD hS hl (hFF) (by omega) (Nat.zero_le _)

set_option maxHeartbeats 4000000 in
set_option maxRecDepth 100000 in
theorem ct_Dr_readPacked (l : Launch) (D : va_G) (cI cZ : ClassId) (sz : Nat) (xd : Nat) (xr : Nat) (da : Nat) (ra : Nat) (rb : Nat) (rd : Nat) (n : Nat) (fz : Nat → Nat) (fs : Nat → Nat) (fl : Nat → Int32) (xt : Nat) (ta : Nat) (tn : Nat) (t : Nat → Nat) (dd : Nat → Bool) (FF : pt_Y) (htn0 : tn ≤ 250) (ht : ∀ j, t j < 256) (hFF : pt_pck t tn 16 0 0 fz fs fl dd = FF) : Met l yn_Dr_readPacked (Cond.code yn_Dr_readPacked bc_Dr_readPacked 5 (some .boolean) :: kx_all) ({ frames := 3, cells := 0, slots := 0, locals := 67 } : Room) (kp [.ref xd, .ref xt] D cI cZ [dr_c xd xr da, cl_c xr ra rb rd n, ar_n cI ra 17 fz, ar_n cI rb 17 fs, ar_i cI rd (17 * 8) fl, tx_c xt ta tn, ar_n cI ta 250 t, ar_b cZ da 17 dd] sz) (kw_e (some (.int (kb_i FF.1))) D kc_l (fun ex : { e : Nat × (Nat → Nat) × (Nat → Nat) × (Nat → Int32) × (Nat → Bool) // FF.1 = true → e.1 = FF.2.1 ∧ e.2.1 = FF.2.2.1 ∧ e.2.2.1 = FF.2.2.2.1 ∧ e.2.2.2.1 = FF.2.2.2.2.1 ∧ e.2.2.2.2 = FF.2.2.2.2.2 } => [dr_c xd xr da, cl_c xr ra rb rd ex.1.1, ar_n cI ra 17 ex.1.2.1, ar_n cI rb 17 ex.1.2.2.1, ar_i cI rd (17 * 8) ex.1.2.2.2.1, tx_c xt ta tn, ar_n cI ta 250 t, ar_b cZ da 17 ex.1.2.2.2.2]) (va_A [dr_c xd xr da, cl_c xr ra rb rd n, ar_n cI ra 17 fz, ar_n cI rb 17 fs, ar_i cI rd (17 * 8) fl, tx_c xt ta tn, ar_n cI ta 250 t, ar_b cZ da 17 dd] sz)) 0 0 (va_A [dr_c xd xr da, cl_c xr ra rb rd n, ar_n cI ra 17 fz, ar_n cI rb 17 fs, ar_i cI rd (17 * 8) fl, tx_c xt ta tn, ar_n cI ta 250 t, ar_b cZ da 17 dd] sz) := by
  refine kx_metE (by decide) (Nat.le_of_ble_eq_true rfl) ?_
  intro p e s m below meth c ls A hx hb hr hml hts hown hlocks hin hA hP hK hD hN hl hS
  have hown : s.vm.findClass rn_Dr = some m.cls := hown
  have hl : lv_has ls 5 [(0, .ref xd), (1, .ref xt)] := hl
  refine lv_aload_n hx hb dc_Dr_readPacked_0 rfl (lv_at hl 0 rfl) ?_
  refine va_get (ci := 3) (v := .ref xr) (C := rn_Dr) (T := fd_Dr) (N := 2) hx hb hts in_Dr hown hK hP 0 rfl rfl 0 (by decide) (hts _ wd_87) (fun _ h9 => h9) rfl dc_Dr_readPacked_1 ?_
  refine lv_iconst (v := nI 0) hx hb dc_Dr_readPacked_4 (by decide +kernel) ?_
  refine kw_call0 (wr := [dr_c xd xr da, ar_n cI ra 17 fz, ar_n cI rb 17 fs, ar_i cI rd (17 * 8) fl, tx_c xt ta tn, ar_n cI ta 250 t, ar_b cZ da 17 dd]) (ws' := [dr_c xd xr da, cl_c xr ra rb rd 0, ar_n cI ra 17 fz, ar_n cI rb 17 fs, ar_i cI rd (17 * 8) fl, tx_c xt ta tn, ar_n cI ta 250 t, ar_b cZ da 17 dd]) (va_runV (As := [.int (nI 0)]) (rest := []) ⟨hx, hb, hml, hown, hts⟩ (ct_Cl_keep l D cI cZ _ xr ra rb rd n 0) (cwV 1 hts (kx_gV wd_331 wd_332 wd_333 wd_4 wd_334) rfl rfl rfl ⟨rfl, yd_Cl_keep⟩ ⟨Nat.le_of_ble_eq_true rfl, Nat.le_of_ble_eq_true rfl⟩) (kp_V (q0 := 1) (ci := 2) hP hD hK hN [1] rfl rfl rfl rfl rfl) rfl rfl hl.1 rfl (lv_room (Nat.le_of_ble_eq_true rfl)) dc_Dr_readPacked_5 ⟨Nat.le_of_ble_eq_true rfl, Nat.le_of_ble_eq_true rfl⟩) hP hD hS hA [1] [0, 2, 3, 4, 5, 6, 7] [0, 7, 1, 2, 3, 4, 5, 6] rfl rfl rfl (by decide) rfl rfl (fun H locs hP hD hS => ?_)
  refine lv_iconst (v := nI 0) hx hb dc_Dr_readPacked_8 (by decide +kernel) ?_
  refine lv_istore_n (lv' := [(2, .int (nI 0)), (0, .ref xd), (1, .ref xt)]) hx hb dc_Dr_readPacked_9 rfl hl (by decide) rfl (fun ls hl => ?_)
  refine lv_iconst (v := nI 1) hx hb dc_Dr_readPacked_10 (by decide +kernel) ?_
  refine lv_istore_n (lv' := [(3, .int (nI 1)), (2, .int (nI 0)), (0, .ref xd), (1, .ref xt)]) hx hb dc_Dr_readPacked_11 rfl hl (by decide) rfl (fun ls hl => ?_)
  have lp_12 : ∀ (K : Nat) (k : Nat) (i : Nat) (fz1 : Nat → Nat) (fs1 : Nat → Nat) (fl1 : Nat → Int32) (dd1 : Nat → Bool) (H : Heap) (locs : List Loc) (ls : Array Slot), 16 - k < K → va_P D kc_l [dr_c xd xr da, cl_c xr ra rb rd k, ar_n cI ra 17 fz1, ar_n cI rb 17 fs1, ar_i cI rd (17 * 8) fl1, tx_c xt ta tn, ar_n cI ta 250 t, ar_b cZ da 17 dd1] H → va_D A [dr_c xd xr da, cl_c xr ra rb rd k, ar_n cI ra 17 fz1, ar_n cI rb 17 fs1, ar_i cI rd (17 * 8) fl1, tx_c xt ta tn, ar_n cI ta 250 t, ar_b cZ da 17 dd1] → va_S A s.heap H locs → lv_has ls 5 [(3, .int (nI (k + 1))), (2, .int (nI i)), (0, .ref xd), (1, .ref xt)] → (pt_pck t tn (16 - k) k i fz1 fs1 fl1 dd1 = FF) → (k ≤ 16) → (i ≤ tn) → W p l e ({ frames := 3, cells := 0, slots := 0, locals := 67 } : Room) s m ([.ref xd, .ref xt] : List Value).toArray below meth c H locs 0 0 (MQ below (kw_e (some (.int (kb_i FF.1))) D kc_l (fun ex : { e : Nat × (Nat → Nat) × (Nat → Nat) × (Nat → Int32) × (Nat → Bool) // FF.1 = true → e.1 = FF.2.1 ∧ e.2.1 = FF.2.2.1 ∧ e.2.2.1 = FF.2.2.2.1 ∧ e.2.2.2.1 = FF.2.2.2.2.1 ∧ e.2.2.2.2 = FF.2.2.2.2.2 } => [dr_c xd xr da, cl_c xr ra rb rd ex.1.1, ar_n cI ra 17 ex.1.2.1, ar_n cI rb 17 ex.1.2.2.1, ar_i cI rd (17 * 8) ex.1.2.2.2.1, tx_c xt ta tn, ar_n cI ta 250 t, ar_b cZ da 17 ex.1.2.2.2.2]) A) ([.ref xd, .ref xt] : List Value).toArray s 0 0 A) (F0 m 12 ls []) := by
    intro K
    induction K with
    | zero =>
      intro k i fz1 fs1 fl1 dd1 H locs ls hk
      exact absurd hk (Nat.not_lt_zero _)
    | succ K ih_12 =>
      intro k i fz1 fs1 fl1 dd1 H locs ls hk hP hD hS hl h1 h2 h4
      refine lv_iload_n hx hb dc_Dr_readPacked_12 rfl (lv_at hl 0 rfl) ?_
      refine lv_bipush (v := nI 16) hx hb dc_Dr_readPacked_13 (by decide +kernel) ?_
      refine kn_icmp_gt hx hb (by omega) (by omega) dc_Dr_readPacked_15 rfl (fun hc15 => ?_) (fun hc15 => ?_)
      · refine lv_iload_n hx hb dc_Dr_readPacked_91 rfl (lv_at hl 1 rfl) ?_
        refine lv_aload_n hx hb dc_Dr_readPacked_92 rfl (lv_at hl 3 rfl) ?_
        refine va_getN (ci := 0) (v := .int (nI tn)) (C := rn_Tx) (T := fd_Tx) (N := 2) hx hb hts in_Tx hown hK hP 5 rfl rfl 1 (by decide) (nf_40 hN) (fun _ h9 => h9) rfl dc_Dr_readPacked_93 ?_
        refine kn_icmp_ne hx hb (by omega) (by omega) dc_Dr_readPacked_96 rfl (fun hc96 => ?_) (fun hc96 => ?_)
        · have hFf : FF.1 = false := by
            rw [← h1, (show pt_pck t tn (16 - k) k i fz1 fs1 fl1 dd1 = (decide (i = tn), k, fz1, fs1, fl1, dd1) by
            by_cases h9 : i < tn
            · rw [show 16 - k = 0 by omega, pt_pck]
            · exact pck_en h9)]
            exact decide_eq_false hc96
          refine lv_iconst (v := nI 0) hx hb dc_Dr_readPacked_103 (by decide +kernel) ?_
          refine kn_top (y := kb_i false) (by decide +kernel) ?_
          exact ke_zret (x := ⟨(k, fz1, fs1, fl1, dd1), fun q9 => absurd q9 (by rw [hFf]; decide)⟩) hx hb hr hlocks hP hD hS dc_Dr_readPacked_104 (by rw [hFf]) (rfl)
        · have hFt : (true, k, fz1, fs1, fl1, dd1) = FF := by
            rw [← h1, (show pt_pck t tn (16 - k) k i fz1 fs1 fl1 dd1 = (decide (i = tn), k, fz1, fs1, fl1, dd1) by
            by_cases h9 : i < tn
            · rw [show 16 - k = 0 by omega, pt_pck]
            · exact pck_en h9), decide_eq_true hc96]
          refine lv_iconst (v := nI 1) hx hb dc_Dr_readPacked_99 (by decide +kernel) ?_
          refine lv_goto hx hb dc_Dr_readPacked_100 rfl ?_
          refine kn_top (y := kb_i true) (by decide +kernel) ?_
          exact ke_zret (x := ⟨(k, fz1, fs1, fl1, dd1), fun _ => by rw [← hFt]; exact ⟨rfl, rfl, rfl, rfl, rfl⟩⟩) hx hb hr hlocks hP hD hS dc_Dr_readPacked_104 (by rw [← hFt]) (rfl)
      · refine lv_iload_n hx hb dc_Dr_readPacked_18 rfl (lv_at hl 1 rfl) ?_
        refine lv_aload_n hx hb dc_Dr_readPacked_19 rfl (lv_at hl 3 rfl) ?_
        refine va_getN (ci := 0) (v := .int (nI tn)) (C := rn_Tx) (T := fd_Tx) (N := 2) hx hb hts in_Tx hown hK hP 5 rfl rfl 1 (by decide) (nf_40 hN) (fun _ h9 => h9) rfl dc_Dr_readPacked_20 ?_
        refine kn_icmp_ge hx hb (by omega) (by omega) dc_Dr_readPacked_23 rfl (fun hc23 => ?_) (fun hc23 => ?_)
        · refine lv_iload_n hx hb dc_Dr_readPacked_91 rfl (lv_at hl 1 rfl) ?_
          refine lv_aload_n hx hb dc_Dr_readPacked_92 rfl (lv_at hl 3 rfl) ?_
          refine va_getN (ci := 0) (v := .int (nI tn)) (C := rn_Tx) (T := fd_Tx) (N := 2) hx hb hts in_Tx hown hK hP 5 rfl rfl 1 (by decide) (nf_40 hN) (fun _ h9 => h9) rfl dc_Dr_readPacked_93 ?_
          refine kn_icmp_ne hx hb (by omega) (by omega) dc_Dr_readPacked_96 rfl (fun hc96 => ?_) (fun hc96 => ?_)
          · have hFf : FF.1 = false := by
              rw [← h1, (show pt_pck t tn (16 - k) k i fz1 fs1 fl1 dd1 = (decide (i = tn), k, fz1, fs1, fl1, dd1) by
              by_cases h9 : i < tn
              · rw [show 16 - k = 0 by omega, pt_pck]
              · exact pck_en h9)]
              exact decide_eq_false hc96
            refine lv_iconst (v := nI 0) hx hb dc_Dr_readPacked_103 (by decide +kernel) ?_
            refine kn_top (y := kb_i false) (by decide +kernel) ?_
            exact ke_zret (x := ⟨(k, fz1, fs1, fl1, dd1), fun q9 => absurd q9 (by rw [hFf]; decide)⟩) hx hb hr hlocks hP hD hS dc_Dr_readPacked_104 (by rw [hFf]) (rfl)
          · have hFt : (true, k, fz1, fs1, fl1, dd1) = FF := by
              rw [← h1, (show pt_pck t tn (16 - k) k i fz1 fs1 fl1 dd1 = (decide (i = tn), k, fz1, fs1, fl1, dd1) by
              by_cases h9 : i < tn
              · rw [show 16 - k = 0 by omega, pt_pck]
              · exact pck_en h9), decide_eq_true hc96]
            refine lv_iconst (v := nI 1) hx hb dc_Dr_readPacked_99 (by decide +kernel) ?_
            refine lv_goto hx hb dc_Dr_readPacked_100 rfl ?_
            refine kn_top (y := kb_i true) (by decide +kernel) ?_
            exact ke_zret (x := ⟨(k, fz1, fs1, fl1, dd1), fun _ => by rw [← hFt]; exact ⟨rfl, rfl, rfl, rfl, rfl⟩⟩) hx hb hr hlocks hP hD hS dc_Dr_readPacked_104 (by rw [← hFt]) (rfl)
        · refine lv_aload_n hx hb dc_Dr_readPacked_26 rfl (lv_at hl 3 rfl) ?_
          refine lv_iload_n hx hb dc_Dr_readPacked_27 rfl (lv_at hl 1 rfl) ?_
          refine kr_call1 (va_runV (As := [.int (nI i)]) (rest := []) ⟨hx, hb, hml, hown, hts⟩ (ct_Tx_at l D cI cZ _ xt ta 250 tn t (nI i) (by decide) (htn0)) (cwV 1 hts (kx_gV wd_532 wd_293 wd_294 wd_2 wd_295) rfl rfl rfl ⟨rfl, yd_Tx_at⟩ ⟨Nat.le_of_ble_eq_true rfl, Nat.le_of_ble_eq_true rfl⟩) (kp_V (q0 := 5) (ci := 0) hP hD hK hN [5, 6] rfl rfl rfl rfl rfl) rfl rfl hl.1 rfl (lv_room (Nat.le_of_ble_eq_true rfl)) dc_Dr_readPacked_28 ⟨Nat.le_of_ble_eq_true rfl, Nat.le_of_ble_eq_true rfl⟩) ?_
          refine kn_top (y := nI (t i)) (pt_at_in (by omega) (by omega)) ?_
          refine lv_istore (lv' := [(4, .int (nI (t i))), (3, .int (nI (k + 1))), (2, .int (nI i)), (0, .ref xd), (1, .ref xt)]) hx hb dc_Dr_readPacked_31 hl (by decide) rfl (fun ls hl => ?_)
          by_cases h97 : t i = 97
          · have hkd : t i = 97 ∨ t i = 100 := Or.inl h97
            have hdb : decide (t i = 100) = false := decide_eq_false (by omega)
            refine lv_iload hx hb dc_Dr_readPacked_33 (lv_at hl 0 rfl) ?_
            refine lv_bipush (v := nI 97) hx hb dc_Dr_readPacked_35 (by decide +kernel) ?_
            refine kn_icmp_eq hx hb (by have := ht i; omega) (by omega) dc_Dr_readPacked_37 rfl (fun hc37 => ?_) (fun hc37 => ?_)
            · refine lv_aload_n hx hb dc_Dr_readPacked_49 rfl (lv_at hl 3 rfl) ?_
              refine va_get (ci := 3) (v := .ref da) (C := rn_Dr) (T := fd_Dr) (N := 2) hx hb hts in_Dr hown hK hP 0 rfl rfl 1 (by decide) (hts _ wd_90) (fun _ h9 => h9) rfl dc_Dr_readPacked_50 ?_
              refine lv_iload_n hx hb dc_Dr_readPacked_53 rfl (lv_at hl 1 rfl) ?_
              refine lv_iload hx hb dc_Dr_readPacked_54 (lv_at hl 0 rfl) ?_
              refine lv_bipush (v := nI 100) hx hb dc_Dr_readPacked_56 (by decide +kernel) ?_
              refine kn_icmp_ne hx hb (by have := ht i; omega) (by omega) dc_Dr_readPacked_58 rfl (fun hc58 => ?_) (fun hc58 => ?_)
              · refine lv_iconst (v := nI 0) hx hb dc_Dr_readPacked_65 (by decide +kernel) ?_
                refine kn_top (y := kb_i false) (by decide +kernel) ?_
                refine ka_bast (t := dd1) hx hb hK hP hD hS 7 1 rfl rfl (j := k + 1) (by omega) (by omega) dc_Dr_readPacked_66 (ws' := [dr_c xd xr da, cl_c xr ra rb rd k, ar_n cI ra 17 fz1, ar_n cI rb 17 fs1, ar_i cI rd (17 * 8) fl1, tx_c xt ta tn, ar_n cI ta 250 t, ar_b cZ da 17 (va_up dd1 (k + 1) false)]) rfl (fun H locs hP hD hS => ?_)
                refine lv_aload_n hx hb dc_Dr_readPacked_67 rfl (lv_at hl 3 rfl) ?_
                refine lv_aload_n hx hb dc_Dr_readPacked_68 rfl (lv_at hl 4 rfl) ?_
                refine lv_iload_n hx hb dc_Dr_readPacked_69 rfl (lv_at hl 2 rfl) ?_
                refine lv_iconst (v := nI 1) hx hb dc_Dr_readPacked_70 (by decide +kernel) ?_
                refine kn_iadd hx hb dc_Dr_readPacked_71 ?_
                refine kw_call1 (wr := [ar_b cZ da 17 (va_up dd1 (k + 1) false)]) (ws' := [dr_c xd xr da, cl_c xr ra rb rd (k + 1), ar_n cI ra 17 ((pt_rp t tn (k + 1) 9 (i + 1) (va_up fz1 (k + 1) 0) (va_up fs1 (k + 1) 0) fl1).2.1), ar_n cI rb 17 ((pt_rp t tn (k + 1) 9 (i + 1) (va_up fz1 (k + 1) 0) (va_up fs1 (k + 1) 0) fl1).2.2.1), ar_i cI rd (17 * 8) ((pt_rp t tn (k + 1) 9 (i + 1) (va_up fz1 (k + 1) 0) (va_up fs1 (k + 1) 0) fl1).2.2.2), tx_c xt ta tn, ar_n cI ta 250 t, ar_b cZ da 17 (va_up dd1 (k + 1) false)]) (va_runV (As := [.ref xt, .int (nI (i + 1))]) (rest := []) ⟨hx, hb, hml, hown, hts⟩ (ct_Dr_readPackedClause l D cI cZ _ xd xr da ra rb rd k fz1 fs1 fl1 xt ta tn t (i + 1) (by omega) (htn0) (ht) (by omega)) (cwV 2 hts (kx_gV wd_533 wd_535 (kx_sel (q := (yn_Dr_readPackedClause, 2)) (List.mem_append_left _ (List.mem_of_getElem? (i := 2) rfl))) wd_3 wd_536) rfl rfl rfl ⟨rfl, yd_Dr_readPackedClause⟩ ⟨Nat.le_of_ble_eq_true rfl, Nat.le_of_ble_eq_true rfl⟩) (kp_V (q0 := 0) (ci := 3) hP hD hK hN [0, 1, 2, 3, 4, 5, 6] rfl rfl rfl rfl rfl) rfl rfl hl.1 rfl (lv_room (Nat.le_of_ble_eq_true rfl)) dc_Dr_readPacked_72 ⟨Nat.le_of_ble_eq_true rfl, Nat.le_of_ble_eq_true rfl⟩) hP hD hS hA [0, 1, 2, 3, 4, 5, 6] [7] [1, 2, 3, 4, 5, 6, 7, 0] rfl rfl rfl (by decide) rfl rfl (fun H locs hP hD hS => ?_)
                rcases rp_res (t := t) (tn := tn) (c := k + 1) 9 (i + 1) (va_up fz1 (k + 1) 0) (va_up fs1 (k + 1) 0) fl1 with hz9 | hz9
                · have hFf : FF.1 = false := by rw [← h1]; exact pck_bad (by omega) (fun _ => hz9)
                  refine kn_top (y := (-1000)) hz9 ?_
                  refine lv_istore_n (lv' := [(2, .int ((-1000))), (4, .int (nI (t i))), (3, .int (nI (k + 1))), (0, .ref xd), (1, .ref xt)]) hx hb dc_Dr_readPacked_75 rfl hl (by decide) rfl (fun ls hl => ?_)
                  refine lv_iload_n hx hb dc_Dr_readPacked_76 rfl (lv_at hl 0 rfl) ?_
                  refine lv_sipush (v := (-1000)) hx hb dc_Dr_readPacked_77 (by decide +kernel) ?_
                  refine lv_icmp_ne hx hb dc_Dr_readPacked_80 rfl (fun hc80 => ?_) (fun hc80 => ?_)
                  · exact absurd rfl hc80
                  · refine lv_iconst (v := nI 0) hx hb dc_Dr_readPacked_83 (by decide +kernel) ?_
                    refine kn_top (y := kb_i false) (by decide +kernel) ?_
                    exact ke_zret (x := ⟨(k + 1, (pt_rp t tn (k + 1) 9 (i + 1) (va_up fz1 (k + 1) 0) (va_up fs1 (k + 1) 0) fl1).2.1, (pt_rp t tn (k + 1) 9 (i + 1) (va_up fz1 (k + 1) 0) (va_up fs1 (k + 1) 0) fl1).2.2.1, (pt_rp t tn (k + 1) 9 (i + 1) (va_up fz1 (k + 1) 0) (va_up fs1 (k + 1) 0) fl1).2.2.2, va_up dd1 (k + 1) false), fun q9 => absurd q9 (by rw [hFf]; decide)⟩) hx hb hr hlocks hP hD hS dc_Dr_readPacked_84 (by rw [hFf]) (rfl)
                · obtain ⟨n9, hn9, hn9t⟩ := hz9
                  refine kn_top (y := nI n9) hn9 ?_
                  refine lv_istore_n (lv' := [(2, .int (nI n9)), (4, .int (nI (t i))), (3, .int (nI (k + 1))), (0, .ref xd), (1, .ref xt)]) hx hb dc_Dr_readPacked_75 rfl hl (by decide) rfl (fun ls hl => ?_)
                  refine lv_iload_n hx hb dc_Dr_readPacked_76 rfl (lv_at hl 0 rfl) ?_
                  refine lv_sipush (v := (-1000)) hx hb dc_Dr_readPacked_77 (by decide +kernel) ?_
                  refine lv_icmp_ne hx hb dc_Dr_readPacked_80 rfl (fun hc80 => ?_) (fun hc80 => ?_)
                  · refine lv_iinc (k := 2) (v := nI ((k + 1) + 1)) (lv' := [(3, .int (nI ((k + 1) + 1))), (2, .int (nI n9)), (4, .int (nI (t i))), (0, .ref xd), (1, .ref xt)]) hx hb dc_Dr_readPacked_85 hl rfl (nI_1 _) (by decide) rfl (fun ls hl => ?_)
                    refine lv_goto hx hb dc_Dr_readPacked_88 rfl ?_
                    have hl := lv_sub (l' := [(3, .int (nI ((k + 1) + 1))), (2, .int (nI n9)), (0, .ref xd), (1, .ref xt)]) hl [0, 1, 3, 4] rfl
                    exact ih_12 _ _ _ _ _ _ _ _ _ (by omega) hP hD hS hl (by rw [← h1, pck_go (by omega) (by omega) hkd hdb rfl hn9 (by omega)]) (by omega) (hn9t)
                  · exact absurd hc80 (nI_n1000 (by omega))
              · exact absurd hc58 (by omega)
            · exact absurd h97 hc37
          · by_cases h100 : t i = 100
            · have hkd : t i = 97 ∨ t i = 100 := Or.inr h100
              have hdb : decide (t i = 100) = true := decide_eq_true h100
              refine lv_iload hx hb dc_Dr_readPacked_33 (lv_at hl 0 rfl) ?_
              refine lv_bipush (v := nI 97) hx hb dc_Dr_readPacked_35 (by decide +kernel) ?_
              refine kn_icmp_eq hx hb (by have := ht i; omega) (by omega) dc_Dr_readPacked_37 rfl (fun hc37 => ?_) (fun hc37 => ?_)
              · exact absurd hc37 h97
              · refine lv_iload hx hb dc_Dr_readPacked_40 (lv_at hl 0 rfl) ?_
                refine lv_bipush (v := nI 100) hx hb dc_Dr_readPacked_42 (by decide +kernel) ?_
                refine kn_icmp_eq hx hb (by have := ht i; omega) (by omega) dc_Dr_readPacked_44 rfl (fun hc44 => ?_) (fun hc44 => ?_)
                · refine lv_aload_n hx hb dc_Dr_readPacked_49 rfl (lv_at hl 3 rfl) ?_
                  refine va_get (ci := 3) (v := .ref da) (C := rn_Dr) (T := fd_Dr) (N := 2) hx hb hts in_Dr hown hK hP 0 rfl rfl 1 (by decide) (hts _ wd_90) (fun _ h9 => h9) rfl dc_Dr_readPacked_50 ?_
                  refine lv_iload_n hx hb dc_Dr_readPacked_53 rfl (lv_at hl 1 rfl) ?_
                  refine lv_iload hx hb dc_Dr_readPacked_54 (lv_at hl 0 rfl) ?_
                  refine lv_bipush (v := nI 100) hx hb dc_Dr_readPacked_56 (by decide +kernel) ?_
                  refine kn_icmp_ne hx hb (by have := ht i; omega) (by omega) dc_Dr_readPacked_58 rfl (fun hc58 => ?_) (fun hc58 => ?_)
                  · exact absurd h100 hc58
                  · refine lv_iconst (v := nI 1) hx hb dc_Dr_readPacked_61 (by decide +kernel) ?_
                    refine lv_goto hx hb dc_Dr_readPacked_62 rfl ?_
                    refine kn_top (y := kb_i true) (by decide +kernel) ?_
                    refine ka_bast (t := dd1) hx hb hK hP hD hS 7 1 rfl rfl (j := k + 1) (by omega) (by omega) dc_Dr_readPacked_66 (ws' := [dr_c xd xr da, cl_c xr ra rb rd k, ar_n cI ra 17 fz1, ar_n cI rb 17 fs1, ar_i cI rd (17 * 8) fl1, tx_c xt ta tn, ar_n cI ta 250 t, ar_b cZ da 17 (va_up dd1 (k + 1) true)]) rfl (fun H locs hP hD hS => ?_)
                    refine lv_aload_n hx hb dc_Dr_readPacked_67 rfl (lv_at hl 3 rfl) ?_
                    refine lv_aload_n hx hb dc_Dr_readPacked_68 rfl (lv_at hl 4 rfl) ?_
                    refine lv_iload_n hx hb dc_Dr_readPacked_69 rfl (lv_at hl 2 rfl) ?_
                    refine lv_iconst (v := nI 1) hx hb dc_Dr_readPacked_70 (by decide +kernel) ?_
                    refine kn_iadd hx hb dc_Dr_readPacked_71 ?_
                    refine kw_call1 (wr := [ar_b cZ da 17 (va_up dd1 (k + 1) true)]) (ws' := [dr_c xd xr da, cl_c xr ra rb rd (k + 1), ar_n cI ra 17 ((pt_rp t tn (k + 1) 9 (i + 1) (va_up fz1 (k + 1) 0) (va_up fs1 (k + 1) 0) fl1).2.1), ar_n cI rb 17 ((pt_rp t tn (k + 1) 9 (i + 1) (va_up fz1 (k + 1) 0) (va_up fs1 (k + 1) 0) fl1).2.2.1), ar_i cI rd (17 * 8) ((pt_rp t tn (k + 1) 9 (i + 1) (va_up fz1 (k + 1) 0) (va_up fs1 (k + 1) 0) fl1).2.2.2), tx_c xt ta tn, ar_n cI ta 250 t, ar_b cZ da 17 (va_up dd1 (k + 1) true)]) (va_runV (As := [.ref xt, .int (nI (i + 1))]) (rest := []) ⟨hx, hb, hml, hown, hts⟩ (ct_Dr_readPackedClause l D cI cZ _ xd xr da ra rb rd k fz1 fs1 fl1 xt ta tn t (i + 1) (by omega) (htn0) (ht) (by omega)) (cwV 2 hts (kx_gV wd_533 wd_535 (kx_sel (q := (yn_Dr_readPackedClause, 2)) (List.mem_append_left _ (List.mem_of_getElem? (i := 2) rfl))) wd_3 wd_536) rfl rfl rfl ⟨rfl, yd_Dr_readPackedClause⟩ ⟨Nat.le_of_ble_eq_true rfl, Nat.le_of_ble_eq_true rfl⟩) (kp_V (q0 := 0) (ci := 3) hP hD hK hN [0, 1, 2, 3, 4, 5, 6] rfl rfl rfl rfl rfl) rfl rfl hl.1 rfl (lv_room (Nat.le_of_ble_eq_true rfl)) dc_Dr_readPacked_72 ⟨Nat.le_of_ble_eq_true rfl, Nat.le_of_ble_eq_true rfl⟩) hP hD hS hA [0, 1, 2, 3, 4, 5, 6] [7] [1, 2, 3, 4, 5, 6, 7, 0] rfl rfl rfl (by decide) rfl rfl (fun H locs hP hD hS => ?_)
                    rcases rp_res (t := t) (tn := tn) (c := k + 1) 9 (i + 1) (va_up fz1 (k + 1) 0) (va_up fs1 (k + 1) 0) fl1 with hz9 | hz9
                    · have hFf : FF.1 = false := by rw [← h1]; exact pck_bad (by omega) (fun _ => hz9)
                      refine kn_top (y := (-1000)) hz9 ?_
                      refine lv_istore_n (lv' := [(2, .int ((-1000))), (4, .int (nI (t i))), (3, .int (nI (k + 1))), (0, .ref xd), (1, .ref xt)]) hx hb dc_Dr_readPacked_75 rfl hl (by decide) rfl (fun ls hl => ?_)
                      refine lv_iload_n hx hb dc_Dr_readPacked_76 rfl (lv_at hl 0 rfl) ?_
                      refine lv_sipush (v := (-1000)) hx hb dc_Dr_readPacked_77 (by decide +kernel) ?_
                      refine lv_icmp_ne hx hb dc_Dr_readPacked_80 rfl (fun hc80 => ?_) (fun hc80 => ?_)
                      · exact absurd rfl hc80
                      · refine lv_iconst (v := nI 0) hx hb dc_Dr_readPacked_83 (by decide +kernel) ?_
                        refine kn_top (y := kb_i false) (by decide +kernel) ?_
                        exact ke_zret (x := ⟨(k + 1, (pt_rp t tn (k + 1) 9 (i + 1) (va_up fz1 (k + 1) 0) (va_up fs1 (k + 1) 0) fl1).2.1, (pt_rp t tn (k + 1) 9 (i + 1) (va_up fz1 (k + 1) 0) (va_up fs1 (k + 1) 0) fl1).2.2.1, (pt_rp t tn (k + 1) 9 (i + 1) (va_up fz1 (k + 1) 0) (va_up fs1 (k + 1) 0) fl1).2.2.2, va_up dd1 (k + 1) true), fun q9 => absurd q9 (by rw [hFf]; decide)⟩) hx hb hr hlocks hP hD hS dc_Dr_readPacked_84 (by rw [hFf]) (rfl)
                    · obtain ⟨n9, hn9, hn9t⟩ := hz9
                      refine kn_top (y := nI n9) hn9 ?_
                      refine lv_istore_n (lv' := [(2, .int (nI n9)), (4, .int (nI (t i))), (3, .int (nI (k + 1))), (0, .ref xd), (1, .ref xt)]) hx hb dc_Dr_readPacked_75 rfl hl (by decide) rfl (fun ls hl => ?_)
                      refine lv_iload_n hx hb dc_Dr_readPacked_76 rfl (lv_at hl 0 rfl) ?_
                      refine lv_sipush (v := (-1000)) hx hb dc_Dr_readPacked_77 (by decide +kernel) ?_
                      refine lv_icmp_ne hx hb dc_Dr_readPacked_80 rfl (fun hc80 => ?_) (fun hc80 => ?_)
                      · refine lv_iinc (k := 2) (v := nI ((k + 1) + 1)) (lv' := [(3, .int (nI ((k + 1) + 1))), (2, .int (nI n9)), (4, .int (nI (t i))), (0, .ref xd), (1, .ref xt)]) hx hb dc_Dr_readPacked_85 hl rfl (nI_1 _) (by decide) rfl (fun ls hl => ?_)
                        refine lv_goto hx hb dc_Dr_readPacked_88 rfl ?_
                        have hl := lv_sub (l' := [(3, .int (nI ((k + 1) + 1))), (2, .int (nI n9)), (0, .ref xd), (1, .ref xt)]) hl [0, 1, 3, 4] rfl
                        exact ih_12 _ _ _ _ _ _ _ _ _ (by omega) hP hD hS hl (by rw [← h1, pck_go (by omega) (by omega) hkd hdb rfl hn9 (by omega)]) (by omega) (hn9t)
                      · exact absurd hc80 (nI_n1000 (by omega))
                · exact absurd h100 hc44
            · have hFf : FF.1 = false := by rw [← h1]; exact pck_kind (by omega) (fun q => q.elim h97 h100)
              refine lv_iload hx hb dc_Dr_readPacked_33 (lv_at hl 0 rfl) ?_
              refine lv_bipush (v := nI 97) hx hb dc_Dr_readPacked_35 (by decide +kernel) ?_
              refine kn_icmp_eq hx hb (by have := ht i; omega) (by omega) dc_Dr_readPacked_37 rfl (fun hc37 => ?_) (fun hc37 => ?_)
              · exact absurd hc37 h97
              · refine lv_iload hx hb dc_Dr_readPacked_40 (lv_at hl 0 rfl) ?_
                refine lv_bipush (v := nI 100) hx hb dc_Dr_readPacked_42 (by decide +kernel) ?_
                refine kn_icmp_eq hx hb (by have := ht i; omega) (by omega) dc_Dr_readPacked_44 rfl (fun hc44 => ?_) (fun hc44 => ?_)
                · exact absurd hc44 h100
                · refine lv_iconst (v := nI 0) hx hb dc_Dr_readPacked_47 (by decide +kernel) ?_
                  refine kn_top (y := kb_i false) (by decide +kernel) ?_
                  exact ke_zret (x := ⟨(k, fz1, fs1, fl1, dd1), fun q9 => absurd q9 (by rw [hFf]; decide)⟩) hx hb hr hlocks hP hD hS dc_Dr_readPacked_48 (by rw [hFf]) (rfl)
  exact lp_12 _ 0 0 fz fs fl dd _ _ _ (Nat.lt_succ_self _) hP hD hS hl (hFF) (by omega) (Nat.zero_le _)
