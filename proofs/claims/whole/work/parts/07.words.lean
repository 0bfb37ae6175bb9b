/-! the words of a text -/
def pt_intv (t : Nat → Nat) (a b : Nat) : Int32 := (pt_int t a b).getD (-1000)
theorem iv_n {t : Nat → Nat} {a b : Nat} (h : a < b ∧ t a = 45) : pt_intv t a b = if b ≤ a + 1 ∨ 3 < b - a ∨ t (a + 1) = 48 then (-1000) else ((pt_dg t (b - (a + 1)) (a + 1) 0).map (fun v => -(nI v))).getD (-1000) := by
  unfold pt_intv pt_int
  rw [if_pos h]
  split <;> rfl
theorem iv_p {t : Nat → Nat} {a b : Nat} (h : ¬ (a < b ∧ t a = 45)) : pt_intv t a b = if b ≤ a ∨ 3 < b - a ∨ (t a = 48 ∧ 1 < b - a) then (-1000) else ((pt_dg t (b - a) a 0).map (fun v => nI v)).getD (-1000) := by
  unfold pt_intv pt_int
  rw [if_neg h]
  split <;> rfl
theorem dg_no {t : Nat → Nat} {e i v : Nat} (h : i < e) (hd : ¬ (48 ≤ t i ∧ t i ≤ 57)) : pt_dg t (e - i) i v = none := by
  obtain ⟨k, hk⟩ : ∃ k, e - i = k + 1 := ⟨e - i - 1, by omega⟩
  rw [hk, pt_dg, if_neg hd]
theorem dg_st {t : Nat → Nat} {e i v : Nat} (h : i < e) (hd : 48 ≤ t i ∧ t i ≤ 57) : pt_dg t (e - i) i v = pt_dg t (e - (i + 1)) (i + 1) (v * 10 + (t i - 48)) := by
  obtain ⟨k, hk⟩ : ∃ k, e - i = k + 1 := ⟨e - i - 1, by omega⟩
  have hk2 : e - (i + 1) = k := by omega
  rw [hk, hk2, pt_dg, if_pos hd]
theorem dg_en {t : Nat → Nat} {e i v : Nat} (h : e ≤ i) : pt_dg t (e - i) i v = some v := by
  rw [show e - i = 0 by omega, pt_dg]

theorem ws_step {t : Nat → Nat} {n i : Nat} (h : i < n) (hg : pt_gap (t i) = true) : pt_ws t n i = pt_ws t n (i + 1) := pt_skip_step h hg
theorem ws_stop {t : Nat → Nat} {n i : Nat} (h : ¬ (i < n ∧ pt_gap (t i) = true)) : pt_ws t n i = i := pt_skip_stop h
theorem we_step {t : Nat → Nat} {n i : Nat} (h : i < n) (hg : (!pt_gap (t i)) = true) : pt_we t n i = pt_we t n (i + 1) := pt_skip_step h hg
theorem we_stop {t : Nat → Nat} {n i : Nat} (h : ¬ (i < n ∧ (!pt_gap (t i)) = true)) : pt_we t n i = i := pt_skip_stop h
theorem ws_ge (t : Nat → Nat) (n i : Nat) : i ≤ pt_ws t n i := pt_skip_ge _ n i
theorem ws_le {t : Nat → Nat} {n i : Nat} (h : i ≤ n) : pt_ws t n i ≤ n := pt_skip_le h
theorem we_ge (t : Nat → Nat) (n i : Nat) : i ≤ pt_we t n i := pt_skip_ge _ n i
theorem we_le {t : Nat → Nat} {n i : Nat} (h : i ≤ n) : pt_we t n i ≤ n := pt_skip_le h

theorem dc_Wd_gapsEnd_0 : decode bc_Wd_gapsEnd 0 = .ok (.iload_n 1, 1) := by decide +kernel
theorem dc_Wd_gapsEnd_1 : decode bc_Wd_gapsEnd 1 = .ok (.istore_n 2, 1) := by decide +kernel
theorem dc_Wd_gapsEnd_2 : decode bc_Wd_gapsEnd 2 = .ok (.iload_n 2, 1) := by decide +kernel
theorem dc_Wd_gapsEnd_3 : decode bc_Wd_gapsEnd 3 = .ok (.aload_n 0, 1) := by decide +kernel
theorem dc_Wd_gapsEnd_4 : decode bc_Wd_gapsEnd 4 = .ok (.getfield 48, 3) := by decide +kernel
theorem dc_Wd_gapsEnd_7 : decode bc_Wd_gapsEnd 7 = .ok (.if_icmp .ge (29), 3) := by decide +kernel
theorem dc_Wd_gapsEnd_10 : decode bc_Wd_gapsEnd 10 = .ok (.aload_n 0, 1) := by decide +kernel
theorem dc_Wd_gapsEnd_11 : decode bc_Wd_gapsEnd 11 = .ok (.iload_n 2, 1) := by decide +kernel
theorem dc_Wd_gapsEnd_12 : decode bc_Wd_gapsEnd 12 = .ok (.invokevirtual 35, 3) := by decide +kernel
theorem dc_Wd_gapsEnd_15 : decode bc_Wd_gapsEnd 15 = .ok (.bipush (32), 2) := by decide +kernel
theorem dc_Wd_gapsEnd_17 : decode bc_Wd_gapsEnd 17 = .ok (.if_icmp .eq (13), 3) := by decide +kernel
theorem dc_Wd_gapsEnd_20 : decode bc_Wd_gapsEnd 20 = .ok (.aload_n 0, 1) := by decide +kernel
theorem dc_Wd_gapsEnd_21 : decode bc_Wd_gapsEnd 21 = .ok (.iload_n 2, 1) := by decide +kernel
theorem dc_Wd_gapsEnd_22 : decode bc_Wd_gapsEnd 22 = .ok (.invokevirtual 35, 3) := by decide +kernel
theorem dc_Wd_gapsEnd_25 : decode bc_Wd_gapsEnd 25 = .ok (.bipush (10), 2) := by decide +kernel
theorem dc_Wd_gapsEnd_27 : decode bc_Wd_gapsEnd 27 = .ok (.if_icmp .ne (9), 3) := by decide +kernel
theorem dc_Wd_gapsEnd_30 : decode bc_Wd_gapsEnd 30 = .ok (.iinc 2 (1), 3) := by decide +kernel
theorem dc_Wd_gapsEnd_33 : decode bc_Wd_gapsEnd 33 = .ok (.goto (-31), 3) := by decide +kernel
theorem dc_Wd_gapsEnd_36 : decode bc_Wd_gapsEnd 36 = .ok (.iload_n 2, 1) := by decide +kernel
theorem dc_Wd_gapsEnd_37 : decode bc_Wd_gapsEnd 37 = .ok (.ireturn, 1) := by decide +kernel
theorem dc_Wd_wordsEnd_0 : decode bc_Wd_wordsEnd 0 = .ok (.iload_n 1, 1) := by decide +kernel
theorem dc_Wd_wordsEnd_1 : decode bc_Wd_wordsEnd 1 = .ok (.istore_n 2, 1) := by decide +kernel
theorem dc_Wd_wordsEnd_2 : decode bc_Wd_wordsEnd 2 = .ok (.iload_n 2, 1) := by decide +kernel
theorem dc_Wd_wordsEnd_3 : decode bc_Wd_wordsEnd 3 = .ok (.aload_n 0, 1) := by decide +kernel
theorem dc_Wd_wordsEnd_4 : decode bc_Wd_wordsEnd 4 = .ok (.getfield 48, 3) := by decide +kernel
theorem dc_Wd_wordsEnd_7 : decode bc_Wd_wordsEnd 7 = .ok (.if_icmp .ge (29), 3) := by decide +kernel
theorem dc_Wd_wordsEnd_10 : decode bc_Wd_wordsEnd 10 = .ok (.aload_n 0, 1) := by decide +kernel
theorem dc_Wd_wordsEnd_11 : decode bc_Wd_wordsEnd 11 = .ok (.iload_n 2, 1) := by decide +kernel
theorem dc_Wd_wordsEnd_12 : decode bc_Wd_wordsEnd 12 = .ok (.invokevirtual 35, 3) := by decide +kernel
theorem dc_Wd_wordsEnd_15 : decode bc_Wd_wordsEnd 15 = .ok (.bipush (32), 2) := by decide +kernel
theorem dc_Wd_wordsEnd_17 : decode bc_Wd_wordsEnd 17 = .ok (.if_icmp .eq (19), 3) := by decide +kernel
theorem dc_Wd_wordsEnd_20 : decode bc_Wd_wordsEnd 20 = .ok (.aload_n 0, 1) := by decide +kernel
theorem dc_Wd_wordsEnd_21 : decode bc_Wd_wordsEnd 21 = .ok (.iload_n 2, 1) := by decide +kernel
theorem dc_Wd_wordsEnd_22 : decode bc_Wd_wordsEnd 22 = .ok (.invokevirtual 35, 3) := by decide +kernel
theorem dc_Wd_wordsEnd_25 : decode bc_Wd_wordsEnd 25 = .ok (.bipush (10), 2) := by decide +kernel
theorem dc_Wd_wordsEnd_27 : decode bc_Wd_wordsEnd 27 = .ok (.if_icmp .eq (9), 3) := by decide +kernel
theorem dc_Wd_wordsEnd_30 : decode bc_Wd_wordsEnd 30 = .ok (.iinc 2 (1), 3) := by decide +kernel
theorem dc_Wd_wordsEnd_33 : decode bc_Wd_wordsEnd 33 = .ok (.goto (-31), 3) := by decide +kernel
theorem dc_Wd_wordsEnd_36 : decode bc_Wd_wordsEnd 36 = .ok (.iload_n 2, 1) := by decide +kernel
theorem dc_Wd_wordsEnd_37 : decode bc_Wd_wordsEnd 37 = .ok (.ireturn, 1) := by decide +kernel
theorem dc_Wd_hasWord_0 : decode bc_Wd_hasWord 0 = .ok (.aload_n 0, 1) := by decide +kernel
theorem dc_Wd_hasWord_1 : decode bc_Wd_hasWord 1 = .ok (.getfield 19, 3) := by decide +kernel
theorem dc_Wd_hasWord_4 : decode bc_Wd_hasWord 4 = .ok (.aload_n 0, 1) := by decide +kernel
theorem dc_Wd_hasWord_5 : decode bc_Wd_hasWord 5 = .ok (.getfield 26, 3) := by decide +kernel
theorem dc_Wd_hasWord_8 : decode bc_Wd_hasWord 8 = .ok (.if_icmp .ge (7), 3) := by decide +kernel
theorem dc_Wd_hasWord_11 : decode bc_Wd_hasWord 11 = .ok (.iconst 1, 1) := by decide +kernel
theorem dc_Wd_hasWord_12 : decode bc_Wd_hasWord 12 = .ok (.goto (4), 3) := by decide +kernel
theorem dc_Wd_hasWord_15 : decode bc_Wd_hasWord 15 = .ok (.iconst 0, 1) := by decide +kernel
theorem dc_Wd_hasWord_16 : decode bc_Wd_hasWord 16 = .ok (.ireturn, 1) := by decide +kernel
theorem dc_Wd_advance_0 : decode bc_Wd_advance 0 = .ok (.aload_n 0, 1) := by decide +kernel
theorem dc_Wd_advance_1 : decode bc_Wd_advance 1 = .ok (.aload_n 0, 1) := by decide +kernel
theorem dc_Wd_advance_2 : decode bc_Wd_advance 2 = .ok (.getfield 9, 3) := by decide +kernel
theorem dc_Wd_advance_5 : decode bc_Wd_advance 5 = .ok (.aload_n 0, 1) := by decide +kernel
theorem dc_Wd_advance_6 : decode bc_Wd_advance 6 = .ok (.getfield 26, 3) := by decide +kernel
theorem dc_Wd_advance_9 : decode bc_Wd_advance 9 = .ok (.invokestatic 15, 3) := by decide +kernel
theorem dc_Wd_advance_12 : decode bc_Wd_advance 12 = .ok (.putfield 19, 3) := by decide +kernel
theorem dc_Wd_advance_15 : decode bc_Wd_advance 15 = .ok (.aload_n 0, 1) := by decide +kernel
theorem dc_Wd_advance_16 : decode bc_Wd_advance 16 = .ok (.aload_n 0, 1) := by decide +kernel
theorem dc_Wd_advance_17 : decode bc_Wd_advance 17 = .ok (.getfield 9, 3) := by decide +kernel
theorem dc_Wd_advance_20 : decode bc_Wd_advance 20 = .ok (.aload_n 0, 1) := by decide +kernel
theorem dc_Wd_advance_21 : decode bc_Wd_advance 21 = .ok (.getfield 19, 3) := by decide +kernel
theorem dc_Wd_advance_24 : decode bc_Wd_advance 24 = .ok (.invokestatic 23, 3) := by decide +kernel
theorem dc_Wd_advance_27 : decode bc_Wd_advance 27 = .ok (.putfield 26, 3) := by decide +kernel
theorem dc_Wd_advance_30 : decode bc_Wd_advance 30 = .ok (.return_, 1) := by decide +kernel
theorem dc_Wd_integer_0 : decode bc_Wd_integer 0 = .ok (.aload_n 0, 1) := by decide +kernel
theorem dc_Wd_integer_1 : decode bc_Wd_integer 1 = .ok (.getfield 9, 3) := by decide +kernel
theorem dc_Wd_integer_4 : decode bc_Wd_integer 4 = .ok (.aload_n 0, 1) := by decide +kernel
theorem dc_Wd_integer_5 : decode bc_Wd_integer 5 = .ok (.getfield 19, 3) := by decide +kernel
theorem dc_Wd_integer_8 : decode bc_Wd_integer 8 = .ok (.invokevirtual 35, 3) := by decide +kernel
theorem dc_Wd_integer_11 : decode bc_Wd_integer 11 = .ok (.bipush (45), 2) := by decide +kernel
theorem dc_Wd_integer_13 : decode bc_Wd_integer 13 = .ok (.if_icmp .ne (7), 3) := by decide +kernel
theorem dc_Wd_integer_16 : decode bc_Wd_integer 16 = .ok (.iconst 1, 1) := by decide +kernel
theorem dc_Wd_integer_17 : decode bc_Wd_integer 17 = .ok (.goto (4), 3) := by decide +kernel
theorem dc_Wd_integer_20 : decode bc_Wd_integer 20 = .ok (.iconst 0, 1) := by decide +kernel
theorem dc_Wd_integer_21 : decode bc_Wd_integer 21 = .ok (.istore_n 1, 1) := by decide +kernel
theorem dc_Wd_integer_22 : decode bc_Wd_integer 22 = .ok (.iload_n 1, 1) := by decide +kernel
theorem dc_Wd_integer_23 : decode bc_Wd_integer 23 = .ok (.ifCond .eq (12), 3) := by decide +kernel
theorem dc_Wd_integer_26 : decode bc_Wd_integer 26 = .ok (.aload_n 0, 1) := by decide +kernel
theorem dc_Wd_integer_27 : decode bc_Wd_integer 27 = .ok (.getfield 19, 3) := by decide +kernel
theorem dc_Wd_integer_30 : decode bc_Wd_integer 30 = .ok (.iconst 1, 1) := by decide +kernel
theorem dc_Wd_integer_31 : decode bc_Wd_integer 31 = .ok (.iadd, 1) := by decide +kernel
theorem dc_Wd_integer_32 : decode bc_Wd_integer 32 = .ok (.goto (7), 3) := by decide +kernel
theorem dc_Wd_integer_35 : decode bc_Wd_integer 35 = .ok (.aload_n 0, 1) := by decide +kernel
theorem dc_Wd_integer_36 : decode bc_Wd_integer 36 = .ok (.getfield 19, 3) := by decide +kernel
theorem dc_Wd_integer_39 : decode bc_Wd_integer 39 = .ok (.istore_n 2, 1) := by decide +kernel
theorem dc_Wd_integer_40 : decode bc_Wd_integer 40 = .ok (.iload_n 2, 1) := by decide +kernel
theorem dc_Wd_integer_41 : decode bc_Wd_integer 41 = .ok (.aload_n 0, 1) := by decide +kernel
theorem dc_Wd_integer_42 : decode bc_Wd_integer 42 = .ok (.getfield 26, 3) := by decide +kernel
theorem dc_Wd_integer_45 : decode bc_Wd_integer 45 = .ok (.if_icmp .ge (16), 3) := by decide +kernel
theorem dc_Wd_integer_48 : decode bc_Wd_integer 48 = .ok (.aload_n 0, 1) := by decide +kernel
theorem dc_Wd_integer_49 : decode bc_Wd_integer 49 = .ok (.getfield 26, 3) := by decide +kernel
theorem dc_Wd_integer_52 : decode bc_Wd_integer 52 = .ok (.aload_n 0, 1) := by decide +kernel
theorem dc_Wd_integer_53 : decode bc_Wd_integer 53 = .ok (.getfield 19, 3) := by decide +kernel
theorem dc_Wd_integer_56 : decode bc_Wd_integer 56 = .ok (.isub, 1) := by decide +kernel
theorem dc_Wd_integer_57 : decode bc_Wd_integer 57 = .ok (.iconst 3, 1) := by decide +kernel
theorem dc_Wd_integer_58 : decode bc_Wd_integer 58 = .ok (.if_icmp .le (7), 3) := by decide +kernel
theorem dc_Wd_integer_61 : decode bc_Wd_integer 61 = .ok (.sipush (-1000), 3) := by decide +kernel
theorem dc_Wd_integer_64 : decode bc_Wd_integer 64 = .ok (.ireturn, 1) := by decide +kernel
theorem dc_Wd_integer_65 : decode bc_Wd_integer 65 = .ok (.aload_n 0, 1) := by decide +kernel
theorem dc_Wd_integer_66 : decode bc_Wd_integer 66 = .ok (.getfield 9, 3) := by decide +kernel
theorem dc_Wd_integer_69 : decode bc_Wd_integer 69 = .ok (.iload_n 2, 1) := by decide +kernel
theorem dc_Wd_integer_70 : decode bc_Wd_integer 70 = .ok (.invokevirtual 35, 3) := by decide +kernel
theorem dc_Wd_integer_73 : decode bc_Wd_integer 73 = .ok (.bipush (48), 2) := by decide +kernel
theorem dc_Wd_integer_75 : decode bc_Wd_integer 75 = .ok (.if_icmp .ne (20), 3) := by decide +kernel
theorem dc_Wd_integer_78 : decode bc_Wd_integer 78 = .ok (.aload_n 0, 1) := by decide +kernel
theorem dc_Wd_integer_79 : decode bc_Wd_integer 79 = .ok (.getfield 26, 3) := by decide +kernel
theorem dc_Wd_integer_82 : decode bc_Wd_integer 82 = .ok (.aload_n 0, 1) := by decide +kernel
theorem dc_Wd_integer_83 : decode bc_Wd_integer 83 = .ok (.getfield 19, 3) := by decide +kernel
theorem dc_Wd_integer_86 : decode bc_Wd_integer 86 = .ok (.isub, 1) := by decide +kernel
theorem dc_Wd_integer_87 : decode bc_Wd_integer 87 = .ok (.iconst 1, 1) := by decide +kernel
theorem dc_Wd_integer_88 : decode bc_Wd_integer 88 = .ok (.if_icmp .le (7), 3) := by decide +kernel
theorem dc_Wd_integer_91 : decode bc_Wd_integer 91 = .ok (.sipush (-1000), 3) := by decide +kernel
theorem dc_Wd_integer_94 : decode bc_Wd_integer 94 = .ok (.ireturn, 1) := by decide +kernel
theorem dc_Wd_integer_95 : decode bc_Wd_integer 95 = .ok (.iconst 0, 1) := by decide +kernel
theorem dc_Wd_integer_96 : decode bc_Wd_integer 96 = .ok (.istore_n 3, 1) := by decide +kernel
theorem dc_Wd_integer_97 : decode bc_Wd_integer 97 = .ok (.iload_n 2, 1) := by decide +kernel
theorem dc_Wd_integer_98 : decode bc_Wd_integer 98 = .ok (.istore 4, 2) := by decide +kernel
theorem dc_Wd_integer_100 : decode bc_Wd_integer 100 = .ok (.iload 4, 2) := by decide +kernel
theorem dc_Wd_integer_102 : decode bc_Wd_integer 102 = .ok (.aload_n 0, 1) := by decide +kernel
theorem dc_Wd_integer_103 : decode bc_Wd_integer 103 = .ok (.getfield 26, 3) := by decide +kernel
theorem dc_Wd_integer_106 : decode bc_Wd_integer 106 = .ok (.if_icmp .ge (47), 3) := by decide +kernel
theorem dc_Wd_integer_109 : decode bc_Wd_integer 109 = .ok (.aload_n 0, 1) := by decide +kernel
theorem dc_Wd_integer_110 : decode bc_Wd_integer 110 = .ok (.getfield 9, 3) := by decide +kernel
theorem dc_Wd_integer_113 : decode bc_Wd_integer 113 = .ok (.iload 4, 2) := by decide +kernel
theorem dc_Wd_integer_115 : decode bc_Wd_integer 115 = .ok (.invokevirtual 35, 3) := by decide +kernel
theorem dc_Wd_integer_118 : decode bc_Wd_integer 118 = .ok (.bipush (48), 2) := by decide +kernel
theorem dc_Wd_integer_120 : decode bc_Wd_integer 120 = .ok (.isub, 1) := by decide +kernel
theorem dc_Wd_integer_121 : decode bc_Wd_integer 121 = .ok (.istore 5, 2) := by decide +kernel
theorem dc_Wd_integer_123 : decode bc_Wd_integer 123 = .ok (.iload 5, 2) := by decide +kernel
theorem dc_Wd_integer_125 : decode bc_Wd_integer 125 = .ok (.ifCond .lt (10), 3) := by decide +kernel
theorem dc_Wd_integer_128 : decode bc_Wd_integer 128 = .ok (.iload 5, 2) := by decide +kernel
theorem dc_Wd_integer_130 : decode bc_Wd_integer 130 = .ok (.bipush (9), 2) := by decide +kernel
theorem dc_Wd_integer_132 : decode bc_Wd_integer 132 = .ok (.if_icmp .le (7), 3) := by decide +kernel
theorem dc_Wd_integer_135 : decode bc_Wd_integer 135 = .ok (.sipush (-1000), 3) := by decide +kernel
theorem dc_Wd_integer_138 : decode bc_Wd_integer 138 = .ok (.ireturn, 1) := by decide +kernel
theorem dc_Wd_integer_139 : decode bc_Wd_integer 139 = .ok (.iload_n 3, 1) := by decide +kernel
theorem dc_Wd_integer_140 : decode bc_Wd_integer 140 = .ok (.bipush (10), 2) := by decide +kernel
theorem dc_Wd_integer_142 : decode bc_Wd_integer 142 = .ok (.imul, 1) := by decide +kernel
theorem dc_Wd_integer_143 : decode bc_Wd_integer 143 = .ok (.iload 5, 2) := by decide +kernel
theorem dc_Wd_integer_145 : decode bc_Wd_integer 145 = .ok (.iadd, 1) := by decide +kernel
theorem dc_Wd_integer_146 : decode bc_Wd_integer 146 = .ok (.istore_n 3, 1) := by decide +kernel
theorem dc_Wd_integer_147 : decode bc_Wd_integer 147 = .ok (.iinc 4 (1), 3) := by decide +kernel
theorem dc_Wd_integer_150 : decode bc_Wd_integer 150 = .ok (.goto (-50), 3) := by decide +kernel
theorem dc_Wd_integer_153 : decode bc_Wd_integer 153 = .ok (.iload_n 1, 1) := by decide +kernel
theorem dc_Wd_integer_154 : decode bc_Wd_integer 154 = .ok (.ifCond .eq (8), 3) := by decide +kernel
theorem dc_Wd_integer_157 : decode bc_Wd_integer 157 = .ok (.iload_n 3, 1) := by decide +kernel
theorem dc_Wd_integer_158 : decode bc_Wd_integer 158 = .ok (.ineg, 1) := by decide +kernel
theorem dc_Wd_integer_159 : decode bc_Wd_integer 159 = .ok (.goto (4), 3) := by decide +kernel
theorem dc_Wd_integer_162 : decode bc_Wd_integer 162 = .ok (.iload_n 3, 1) := by decide +kernel
theorem dc_Wd_integer_163 : decode bc_Wd_integer 163 = .ok (.ireturn, 1) := by decide +kernel
theorem dc_Wd_init_0 : decode bc_Wd_init 0 = .ok (.aload_n 0, 1) := by decide +kernel
theorem dc_Wd_init_1 : decode bc_Wd_init 1 = .ok (.invokespecial 3, 3) := by decide +kernel
theorem dc_Wd_init_4 : decode bc_Wd_init 4 = .ok (.aload_n 0, 1) := by decide +kernel
theorem dc_Wd_init_5 : decode bc_Wd_init 5 = .ok (.aload_n 1, 1) := by decide +kernel
theorem dc_Wd_init_6 : decode bc_Wd_init 6 = .ok (.putfield 9, 3) := by decide +kernel
theorem dc_Wd_init_9 : decode bc_Wd_init 9 = .ok (.aload_n 0, 1) := by decide +kernel
theorem dc_Wd_init_10 : decode bc_Wd_init 10 = .ok (.aload_n 1, 1) := by decide +kernel
theorem dc_Wd_init_11 : decode bc_Wd_init 11 = .ok (.iconst 0, 1) := by decide +kernel
theorem dc_Wd_init_12 : decode bc_Wd_init 12 = .ok (.invokestatic 15, 3) := by decide +kernel
theorem dc_Wd_init_15 : decode bc_Wd_init 15 = .ok (.putfield 19, 3) := by decide +kernel
theorem dc_Wd_init_18 : decode bc_Wd_init 18 = .ok (.aload_n 0, 1) := by decide +kernel
theorem dc_Wd_init_19 : decode bc_Wd_init 19 = .ok (.aload_n 1, 1) := by decide +kernel
theorem dc_Wd_init_20 : decode bc_Wd_init 20 = .ok (.aload_n 0, 1) := by decide +kernel
theorem dc_Wd_init_21 : decode bc_Wd_init 21 = .ok (.getfield 19, 3) := by decide +kernel
theorem dc_Wd_init_24 : decode bc_Wd_init 24 = .ok (.invokestatic 23, 3) := by decide +kernel
theorem dc_Wd_init_27 : decode bc_Wd_init 27 = .ok (.putfield 26, 3) := by decide +kernel
theorem dc_Wd_init_30 : decode bc_Wd_init 30 = .ok (.return_, 1) := by decide +kernel
set_option maxHeartbeats 4000000 in
set_option maxRecDepth 100000 in
theorem ct_Wd_gapsEnd (l : Launch) (D : va_G) (cI cZ : ClassId) (sz : Nat) (o : Nat) (a : Nat) (N : Nat) (n : Nat) (t : Nat → Nat) (i : Nat) (hN : N < 2 ^ 31) (hn : n ≤ N) (ht : ∀ j, t j < 256) (hi : i ≤ n) : Met l yn_Wd_gapsEnd (Cond.code yn_Wd_gapsEnd bc_Wd_gapsEnd 3 (some .int) :: kx_all) ({ frames := 1, cells := 0, slots := 0, locals := 21 } : Room) (kp [.ref o, .int (nI i)] D cI cZ [tx_c o a n, ar_n cI a N t] sz) (kr_q (some (.int (nI (pt_ws t n i))))) 0 0 (fun _ => False) := by
  refine kx_met (by decide) (Nat.le_of_ble_eq_true rfl) ?_
  intro p e s m below meth c ls hx hb hr hml hts hown hlocks hin hsz hP hK hD hN hl
  have hown : s.vm.findClass rn_Wd = some m.cls := hown
  have hl : lv_has ls 3 [(0, .ref o), (1, .int (nI i))] := hl
  refine lv_iload_n hx hb dc_Wd_gapsEnd_0 rfl (lv_at hl 1 rfl) ?_
  refine lv_istore_n (lv' := [(2, .int (nI i)), (0, .ref o), (1, .int (nI i))]) hx hb dc_Wd_gapsEnd_1 rfl hl (by decide) rfl (fun ls hl => ?_)
  have lp_2 : ∀ (K : Nat) (at_ : Nat) (ls : Array Slot), n - at_ < K → lv_has ls 3 [(2, .int (nI at_)), (0, .ref o), (1, .int (nI i))] → (pt_ws t n at_ = pt_ws t n i) → (at_ ≤ n) → W p l e ({ frames := 1, cells := 0, slots := 0, locals := 21 } : Room) s m ([.ref o, .int (nI i)] : List Value).toArray below meth c s.heap [] 0 0 (MQ below (kr_q (some (.int (nI (pt_ws t n i))))) ([.ref o, .int (nI i)] : List Value).toArray s 0 0 (fun _ => False)) (F0 m 2 ls []) := by
    intro K
    induction K with
    | zero =>
      intro at_ ls hk
      exact absurd hk (Nat.not_lt_zero _)
    | succ K ih =>
      intro at_ ls hk hl h1 h2
      refine lv_iload_n hx hb dc_Wd_gapsEnd_2 rfl (lv_at hl 0 rfl) ?_
      refine lv_aload_n hx hb dc_Wd_gapsEnd_3 rfl (lv_at hl 1 rfl) ?_
      refine va_getN (ci := 0) (v := .int (nI n)) (C := rn_Tx) (T := fd_Tx) (N := 2) hx hb hts in_Tx hown hK hP 0 rfl rfl 1 (by decide) (nf_41 hN) (fun _ h9 => h9) rfl dc_Wd_gapsEnd_4 ?_
      refine kn_icmp_ge hx hb (by omega) (by omega) dc_Wd_gapsEnd_7 rfl (fun hc7 => ?_) (fun hc7 => ?_)
      · refine lv_iload_n hx hb dc_Wd_gapsEnd_36 rfl (lv_at hl 0 rfl) ?_
        exact kr_iret hx hb hr hlocks dc_Wd_gapsEnd_37 (by rw [← h1, ws_stop (fun q => by omega)])
      · refine lv_aload_n hx hb dc_Wd_gapsEnd_10 rfl (lv_at hl 1 rfl) ?_
        refine lv_iload_n hx hb dc_Wd_gapsEnd_11 rfl (lv_at hl 0 rfl) ?_
        refine kr_call1 (va_runV (As := [.int (nI at_)]) (rest := []) ⟨hx, hb, hml, hown, hts⟩ (ct_Tx_atn l D cI cZ _ o a N n t at_ (by omega) (by omega) (by omega)) (cwV 1 hts (kx_gV wd_313 wd_293 wd_294 wd_2 wd_295) rfl rfl rfl ⟨rfl, yd_Tx_at⟩ ⟨Nat.le_of_ble_eq_true rfl, Nat.le_of_ble_eq_true rfl⟩) (kp_V (q0 := 0) (ci := 0) hP hD hK hN [0, 1] rfl rfl rfl rfl rfl) rfl rfl hl.1 rfl (lv_room (Nat.le_of_ble_eq_true rfl)) dc_Wd_gapsEnd_12 ⟨Nat.le_of_ble_eq_true rfl, Nat.le_of_ble_eq_true rfl⟩) ?_
        refine lv_bipush (v := nI 32) hx hb dc_Wd_gapsEnd_15 (by decide +kernel) ?_
        refine kn_icmp_eq hx hb (Nat.lt_trans (ht at_) (by decide)) (by omega) dc_Wd_gapsEnd_17 rfl (fun hc17 => ?_) (fun hc17 => ?_)
        · refine lv_iinc (k := 0) (v := nI (at_ + 1)) (lv' := [(2, .int (nI (at_ + 1))), (0, .ref o), (1, .int (nI i))]) hx hb dc_Wd_gapsEnd_30 hl rfl (nI_1 _) (by decide) rfl (fun ls hl => ?_)
          refine lv_goto hx hb dc_Wd_gapsEnd_33 rfl ?_
          exact ih _ _ (by omega) hl (by rw [← h1]; exact (ws_step (by omega) (by simp [pt_gap, hc17])).symm) (by omega)
        · refine lv_aload_n hx hb dc_Wd_gapsEnd_20 rfl (lv_at hl 1 rfl) ?_
          refine lv_iload_n hx hb dc_Wd_gapsEnd_21 rfl (lv_at hl 0 rfl) ?_
          refine kr_call1 (va_runV (As := [.int (nI at_)]) (rest := []) ⟨hx, hb, hml, hown, hts⟩ (ct_Tx_atn l D cI cZ _ o a N n t at_ (by omega) (by omega) (by omega)) (cwV 1 hts (kx_gV wd_313 wd_293 wd_294 wd_2 wd_295) rfl rfl rfl ⟨rfl, yd_Tx_at⟩ ⟨Nat.le_of_ble_eq_true rfl, Nat.le_of_ble_eq_true rfl⟩) (kp_V (q0 := 0) (ci := 0) hP hD hK hN [0, 1] rfl rfl rfl rfl rfl) rfl rfl hl.1 rfl (lv_room (Nat.le_of_ble_eq_true rfl)) dc_Wd_gapsEnd_22 ⟨Nat.le_of_ble_eq_true rfl, Nat.le_of_ble_eq_true rfl⟩) ?_
          refine lv_bipush (v := nI 10) hx hb dc_Wd_gapsEnd_25 (by decide +kernel) ?_
          refine kn_icmp_ne hx hb (Nat.lt_trans (ht at_) (by decide)) (by omega) dc_Wd_gapsEnd_27 rfl (fun hc27 => ?_) (fun hc27 => ?_)
          · refine lv_iload_n hx hb dc_Wd_gapsEnd_36 rfl (lv_at hl 0 rfl) ?_
            exact kr_iret hx hb hr hlocks dc_Wd_gapsEnd_37 (by rw [← h1, ws_stop (fun q => by have := q.2; simp [pt_gap, hc17, hc27] at this)])
          · refine lv_iinc (k := 0) (v := nI (at_ + 1)) (lv' := [(2, .int (nI (at_ + 1))), (0, .ref o), (1, .int (nI i))]) hx hb dc_Wd_gapsEnd_30 hl rfl (nI_1 _) (by decide) rfl (fun ls hl => ?_)
            refine lv_goto hx hb dc_Wd_gapsEnd_33 rfl ?_
            exact ih _ _ (by omega) hl (by rw [← h1]; exact (ws_step (by omega) (by simp [pt_gap, hc27])).symm) (by omega)
  exact lp_2 _ _ _ (Nat.lt_succ_self _) hl (rfl) (by omega)

set_option maxHeartbeats 4000000 in
set_option maxRecDepth 100000 in
theorem ct_Wd_wordsEnd (l : Launch) (D : va_G) (cI cZ : ClassId) (sz : Nat) (o : Nat) (a : Nat) (N : Nat) (n : Nat) (t : Nat → Nat) (i : Nat) (hN : N < 2 ^ 31) (hn : n ≤ N) (ht : ∀ j, t j < 256) (hi : i ≤ n) : Met l yn_Wd_wordsEnd (Cond.code yn_Wd_wordsEnd bc_Wd_wordsEnd 3 (some .int) :: kx_all) ({ frames := 1, cells := 0, slots := 0, locals := 21 } : Room) (kp [.ref o, .int (nI i)] D cI cZ [tx_c o a n, ar_n cI a N t] sz) (kr_q (some (.int (nI (pt_we t n i))))) 0 0 (fun _ => False) := by
  refine kx_met (by decide) (Nat.le_of_ble_eq_true rfl) ?_
  intro p e s m below meth c ls hx hb hr hml hts hown hlocks hin hsz hP hK hD hN hl
  have hown : s.vm.findClass rn_Wd = some m.cls := hown
  have hl : lv_has ls 3 [(0, .ref o), (1, .int (nI i))] := hl
  refine lv_iload_n hx hb dc_Wd_wordsEnd_0 rfl (lv_at hl 1 rfl) ?_
  refine lv_istore_n (lv' := [(2, .int (nI i)), (0, .ref o), (1, .int (nI i))]) hx hb dc_Wd_wordsEnd_1 rfl hl (by decide) rfl (fun ls hl => ?_)
  have lp_2 : ∀ (K : Nat) (at_ : Nat) (ls : Array Slot), n - at_ < K → lv_has ls 3 [(2, .int (nI at_)), (0, .ref o), (1, .int (nI i))] → (pt_we t n at_ = pt_we t n i) → (at_ ≤ n) → W p l e ({ frames := 1, cells := 0, slots := 0, locals := 21 } : Room) s m ([.ref o, .int (nI i)] : List Value).toArray below meth c s.heap [] 0 0 (MQ below (kr_q (some (.int (nI (pt_we t n i))))) ([.ref o, .int (nI i)] : List Value).toArray s 0 0 (fun _ => False)) (F0 m 2 ls []) := by
    intro K
    induction K with
    | zero =>
      intro at_ ls hk
      exact absurd hk (Nat.not_lt_zero _)
    | succ K ih =>
      intro at_ ls hk hl h1 h2
      refine lv_iload_n hx hb dc_Wd_wordsEnd_2 rfl (lv_at hl 0 rfl) ?_
      refine lv_aload_n hx hb dc_Wd_wordsEnd_3 rfl (lv_at hl 1 rfl) ?_
      refine va_getN (ci := 0) (v := .int (nI n)) (C := rn_Tx) (T := fd_Tx) (N := 2) hx hb hts in_Tx hown hK hP 0 rfl rfl 1 (by decide) (nf_41 hN) (fun _ h9 => h9) rfl dc_Wd_wordsEnd_4 ?_
      refine kn_icmp_ge hx hb (by omega) (by omega) dc_Wd_wordsEnd_7 rfl (fun hc7 => ?_) (fun hc7 => ?_)
      · refine lv_iload_n hx hb dc_Wd_wordsEnd_36 rfl (lv_at hl 0 rfl) ?_
        exact kr_iret hx hb hr hlocks dc_Wd_wordsEnd_37 (by rw [← h1, we_stop (fun q => by omega)])
      · refine lv_aload_n hx hb dc_Wd_wordsEnd_10 rfl (lv_at hl 1 rfl) ?_
        refine lv_iload_n hx hb dc_Wd_wordsEnd_11 rfl (lv_at hl 0 rfl) ?_
        refine kr_call1 (va_runV (As := [.int (nI at_)]) (rest := []) ⟨hx, hb, hml, hown, hts⟩ (ct_Tx_atn l D cI cZ _ o a N n t at_ (by omega) (by omega) (by omega)) (cwV 1 hts (kx_gV wd_313 wd_293 wd_294 wd_2 wd_295) rfl rfl rfl ⟨rfl, yd_Tx_at⟩ ⟨Nat.le_of_ble_eq_true rfl, Nat.le_of_ble_eq_true rfl⟩) (kp_V (q0 := 0) (ci := 0) hP hD hK hN [0, 1] rfl rfl rfl rfl rfl) rfl rfl hl.1 rfl (lv_room (Nat.le_of_ble_eq_true rfl)) dc_Wd_wordsEnd_12 ⟨Nat.le_of_ble_eq_true rfl, Nat.le_of_ble_eq_true rfl⟩) ?_
        refine lv_bipush (v := nI 32) hx hb dc_Wd_wordsEnd_15 (by decide +kernel) ?_
        refine kn_icmp_eq hx hb (Nat.lt_trans (ht at_) (by decide)) (by omega) dc_Wd_wordsEnd_17 rfl (fun hc17 => ?_) (fun hc17 => ?_)
        · refine lv_iload_n hx hb dc_Wd_wordsEnd_36 rfl (lv_at hl 0 rfl) ?_
          exact kr_iret hx hb hr hlocks dc_Wd_wordsEnd_37 (by rw [← h1, we_stop (fun q => by have := q.2; simp [pt_gap, hc17] at this)])
        · refine lv_aload_n hx hb dc_Wd_wordsEnd_20 rfl (lv_at hl 1 rfl) ?_
          refine lv_iload_n hx hb dc_Wd_wordsEnd_21 rfl (lv_at hl 0 rfl) ?_
          refine kr_call1 (va_runV (As := [.int (nI at_)]) (rest := []) ⟨hx, hb, hml, hown, hts⟩ (ct_Tx_atn l D cI cZ _ o a N n t at_ (by omega) (by omega) (by omega)) (cwV 1 hts (kx_gV wd_313 wd_293 wd_294 wd_2 wd_295) rfl rfl rfl ⟨rfl, yd_Tx_at⟩ ⟨Nat.le_of_ble_eq_true rfl, Nat.le_of_ble_eq_true rfl⟩) (kp_V (q0 := 0) (ci := 0) hP hD hK hN [0, 1] rfl rfl rfl rfl rfl) rfl rfl hl.1 rfl (lv_room (Nat.le_of_ble_eq_true rfl)) dc_Wd_wordsEnd_22 ⟨Nat.le_of_ble_eq_true rfl, Nat.le_of_ble_eq_true rfl⟩) ?_
          refine lv_bipush (v := nI 10) hx hb dc_Wd_wordsEnd_25 (by decide +kernel) ?_
          refine kn_icmp_eq hx hb (Nat.lt_trans (ht at_) (by decide)) (by omega) dc_Wd_wordsEnd_27 rfl (fun hc27 => ?_) (fun hc27 => ?_)
          · refine lv_iload_n hx hb dc_Wd_wordsEnd_36 rfl (lv_at hl 0 rfl) ?_
            exact kr_iret hx hb hr hlocks dc_Wd_wordsEnd_37 (by rw [← h1, we_stop (fun q => by have := q.2; simp [pt_gap, hc27] at this)])
          · refine lv_iinc (k := 0) (v := nI (at_ + 1)) (lv' := [(2, .int (nI (at_ + 1))), (0, .ref o), (1, .int (nI i))]) hx hb dc_Wd_wordsEnd_30 hl rfl (nI_1 _) (by decide) rfl (fun ls hl => ?_)
            refine lv_goto hx hb dc_Wd_wordsEnd_33 rfl ?_
            exact ih _ _ (by omega) hl (by rw [← h1]; exact (we_step (by omega) (by simp [pt_gap, hc17, hc27])).symm) (by omega)
  exact lp_2 _ _ _ (Nat.lt_succ_self _) hl (rfl) (by omega)

set_option maxHeartbeats 4000000 in
set_option maxRecDepth 100000 in
theorem ct_Wd_hasWord (l : Launch) (D : va_G) (cI cZ : ClassId) (sz : Nat) (w : Nat) (o : Nat) (ga : Nat) (gb : Nat) (hs : ga < 2 ^ 31) (he : gb < 2 ^ 31) : Met l yn_Wd_hasWord (Cond.code yn_Wd_hasWord bc_Wd_hasWord 1 (some .boolean) :: kx_all) ({ frames := 0, cells := 0, slots := 0, locals := 0 } : Room) (kp [.ref w] D cI cZ [wo_c w o ga gb] sz) (kr_q (some (.int (kb_i (decide (ga < gb)))))) 0 0 (fun _ => False) := by
  refine kx_met (by decide) (Nat.le_of_ble_eq_true rfl) ?_
  intro p e s m below meth c ls hx hb hr hml hts hown hlocks hin hsz hP hK hD hN hl
  have hown : s.vm.findClass rn_Wd = some m.cls := hown
  have hl : lv_has ls 1 [(0, .ref w)] := hl
  refine lv_aload_n hx hb dc_Wd_hasWord_0 rfl (lv_at hl 0 rfl) ?_
  refine va_get (ci := 1) (v := .int (nI ga)) (C := rn_Wd) (T := fd_Wd) (N := 3) hx hb hts in_Wd hown hK hP 0 rfl rfl 1 (by decide) (hts _ wd_318) (fun _ h9 => h9) rfl dc_Wd_hasWord_1 ?_
  refine lv_aload_n hx hb dc_Wd_hasWord_4 rfl (lv_at hl 0 rfl) ?_
  refine va_get (ci := 1) (v := .int (nI gb)) (C := rn_Wd) (T := fd_Wd) (N := 3) hx hb hts in_Wd hown hK hP 0 rfl rfl 2 (by decide) (hts _ wd_319) (fun _ h9 => h9) rfl dc_Wd_hasWord_5 ?_
  refine kn_icmp_ge hx hb (by omega) (by omega) dc_Wd_hasWord_8 rfl (fun hc8 => ?_) (fun hc8 => ?_)
  · refine lv_iconst (v := nI 0) hx hb dc_Wd_hasWord_15 (by decide +kernel) ?_
    refine kn_top (y := kb_i false) (by decide +kernel) ?_
    exact kr_zret hx hb hr hlocks dc_Wd_hasWord_16 ((decide_eq_false (by omega)).symm)
  · refine lv_iconst (v := nI 1) hx hb dc_Wd_hasWord_11 (by decide +kernel) ?_
    refine lv_goto hx hb dc_Wd_hasWord_12 rfl ?_
    refine kn_top (y := kb_i true) (by decide +kernel) ?_
    exact kr_zret hx hb hr hlocks dc_Wd_hasWord_16 ((decide_eq_true (by omega)).symm)

set_option maxHeartbeats 4000000 in
set_option maxRecDepth 100000 in
theorem ct_Wd_integer (l : Launch) (D : va_G) (cI cZ : ClassId) (sz : Nat) (w : Nat) (o : Nat) (a : Nat) (N : Nat) (n : Nat) (t : Nat → Nat) (ga : Nat) (gb : Nat) (hN : N < 2 ^ 31) (hn : n ≤ N) (ht : ∀ j, t j < 256) (hse : ga ≤ gb) (hen : gb ≤ n) (hs : ga < n → ga < gb) : Met l yn_Wd_integer (Cond.code yn_Wd_integer bc_Wd_integer 6 (some .int) :: kx_all) ({ frames := 1, cells := 0, slots := 0, locals := 21 } : Room) (kp [.ref w] D cI cZ [wo_c w o ga gb, tx_c o a n, ar_n cI a N t] sz) (kr_q (some (.int (pt_intv t ga gb)))) 0 0 (fun _ => False) := by
  refine kx_met (by decide) (Nat.le_of_ble_eq_true rfl) ?_
  intro p e s m below meth c ls hx hb hr hml hts hown hlocks hin hsz hP hK hD hN hl
  have hown : s.vm.findClass rn_Wd = some m.cls := hown
  have hl : lv_has ls 6 [(0, .ref w)] := hl
  have hn2 : n < 2 ^ 31 := by omega
  by_cases hsn : n ≤ ga
  · refine lv_aload_n hx hb dc_Wd_integer_0 rfl (lv_at hl 0 rfl) ?_
    refine va_get (ci := 1) (v := .ref o) (C := rn_Wd) (T := fd_Wd) (N := 3) hx hb hts in_Wd hown hK hP 0 rfl rfl 0 (by decide) (hts _ wd_317) (fun _ h9 => h9) rfl dc_Wd_integer_1 ?_
    refine lv_aload_n hx hb dc_Wd_integer_4 rfl (lv_at hl 0 rfl) ?_
    refine va_get (ci := 1) (v := .int (nI ga)) (C := rn_Wd) (T := fd_Wd) (N := 3) hx hb hts in_Wd hown hK hP 0 rfl rfl 1 (by decide) (hts _ wd_318) (fun _ h9 => h9) rfl dc_Wd_integer_5 ?_
    refine kr_call1 (va_runV (As := [.int (nI ga)]) (rest := []) ⟨hx, hb, hml, hown, hts⟩ (ct_Tx_at l D cI cZ _ o a N n t (nI ga) (by omega) (by omega)) (cwV 1 hts (kx_gV wd_313 wd_293 wd_294 wd_2 wd_295) rfl rfl rfl ⟨rfl, yd_Tx_at⟩ ⟨Nat.le_of_ble_eq_true rfl, Nat.le_of_ble_eq_true rfl⟩) (kp_V (q0 := 1) (ci := 0) hP hD hK hN [1, 2] rfl rfl rfl rfl rfl) rfl rfl hl.1 rfl (lv_room (Nat.le_of_ble_eq_true rfl)) dc_Wd_integer_8 ⟨Nat.le_of_ble_eq_true rfl, Nat.le_of_ble_eq_true rfl⟩) ?_
    refine kn_top (y := (-1000)) (pt_at_out (by omega) (by omega)) ?_
    refine lv_bipush (v := nI 45) hx hb dc_Wd_integer_11 (by decide +kernel) ?_
    refine lv_icmp_ne hx hb dc_Wd_integer_13 rfl (fun hc13 => ?_) (fun hc13 => ?_)
    · refine lv_iconst (v := nI 0) hx hb dc_Wd_integer_20 (by decide +kernel) ?_
      refine lv_istore_n (lv' := [(1, .int (nI 0)), (0, .ref w)]) hx hb dc_Wd_integer_21 rfl hl (by decide) rfl (fun ls hl => ?_)
      refine lv_iload_n hx hb dc_Wd_integer_22 rfl (lv_at hl 0 rfl) ?_
      refine kn_if_eq hx hb (by omega) dc_Wd_integer_23 rfl (fun hc23 => ?_) (fun hc23 => ?_)
      · refine lv_aload_n hx hb dc_Wd_integer_35 rfl (lv_at hl 1 rfl) ?_
        refine va_get (ci := 1) (v := .int (nI ga)) (C := rn_Wd) (T := fd_Wd) (N := 3) hx hb hts in_Wd hown hK hP 0 rfl rfl 1 (by decide) (hts _ wd_318) (fun _ h9 => h9) rfl dc_Wd_integer_36 ?_
        refine lv_istore_n (lv' := [(2, .int (nI ga)), (1, .int (nI 0)), (0, .ref w)]) hx hb dc_Wd_integer_39 rfl hl (by decide) rfl (fun ls hl => ?_)
        refine lv_iload_n hx hb dc_Wd_integer_40 rfl (lv_at hl 0 rfl) ?_
        refine lv_aload_n hx hb dc_Wd_integer_41 rfl (lv_at hl 2 rfl) ?_
        refine va_get (ci := 1) (v := .int (nI gb)) (C := rn_Wd) (T := fd_Wd) (N := 3) hx hb hts in_Wd hown hK hP 0 rfl rfl 2 (by decide) (hts _ wd_319) (fun _ h9 => h9) rfl dc_Wd_integer_42 ?_
        refine kn_icmp_ge hx hb (by omega) (by omega) dc_Wd_integer_45 rfl (fun hc45 => ?_) (fun hc45 => ?_)
        · refine lv_sipush (v := (-1000)) hx hb dc_Wd_integer_61 (by decide +kernel) ?_
          exact kr_iret hx hb hr hlocks dc_Wd_integer_64 (by rw [iv_p (fun q => by omega), if_pos (Or.inl (by omega))])
        · exfalso; omega
      · exact absurd rfl hc23
    · exact absurd hc13 (by decide +kernel)
  · refine lv_aload_n hx hb dc_Wd_integer_0 rfl (lv_at hl 0 rfl) ?_
    refine va_get (ci := 1) (v := .ref o) (C := rn_Wd) (T := fd_Wd) (N := 3) hx hb hts in_Wd hown hK hP 0 rfl rfl 0 (by decide) (hts _ wd_317) (fun _ h9 => h9) rfl dc_Wd_integer_1 ?_
    refine lv_aload_n hx hb dc_Wd_integer_4 rfl (lv_at hl 0 rfl) ?_
    refine va_get (ci := 1) (v := .int (nI ga)) (C := rn_Wd) (T := fd_Wd) (N := 3) hx hb hts in_Wd hown hK hP 0 rfl rfl 1 (by decide) (hts _ wd_318) (fun _ h9 => h9) rfl dc_Wd_integer_5 ?_
    refine kr_call1 (va_runV (As := [.int (nI ga)]) (rest := []) ⟨hx, hb, hml, hown, hts⟩ (ct_Tx_atn l D cI cZ _ o a N n t ga (by omega) (by omega) (by omega)) (cwV 1 hts (kx_gV wd_313 wd_293 wd_294 wd_2 wd_295) rfl rfl rfl ⟨rfl, yd_Tx_at⟩ ⟨Nat.le_of_ble_eq_true rfl, Nat.le_of_ble_eq_true rfl⟩) (kp_V (q0 := 1) (ci := 0) hP hD hK hN [1, 2] rfl rfl rfl rfl rfl) rfl rfl hl.1 rfl (lv_room (Nat.le_of_ble_eq_true rfl)) dc_Wd_integer_8 ⟨Nat.le_of_ble_eq_true rfl, Nat.le_of_ble_eq_true rfl⟩) ?_
    by_cases hneg : t ga = 45
    · refine lv_bipush (v := nI 45) hx hb dc_Wd_integer_11 (by decide +kernel) ?_
      refine kn_icmp_ne hx hb (Nat.lt_trans (ht ga) (by decide)) (by omega) dc_Wd_integer_13 rfl (fun hc13 => ?_) (fun hc13 => ?_)
      · exact absurd hneg hc13
      · refine lv_iconst (v := nI 1) hx hb dc_Wd_integer_16 (by decide +kernel) ?_
        refine lv_goto hx hb dc_Wd_integer_17 rfl ?_
        refine lv_istore_n (lv' := [(1, .int (nI 1)), (0, .ref w)]) hx hb dc_Wd_integer_21 rfl hl (by decide) rfl (fun ls hl => ?_)
        refine lv_iload_n hx hb dc_Wd_integer_22 rfl (lv_at hl 0 rfl) ?_
        refine kn_if_eq hx hb (by omega) dc_Wd_integer_23 rfl (fun hc23 => ?_) (fun hc23 => ?_)
        · exact absurd hc23 (by decide)
        · refine lv_aload_n hx hb dc_Wd_integer_26 rfl (lv_at hl 1 rfl) ?_
          refine va_get (ci := 1) (v := .int (nI ga)) (C := rn_Wd) (T := fd_Wd) (N := 3) hx hb hts in_Wd hown hK hP 0 rfl rfl 1 (by decide) (hts _ wd_318) (fun _ h9 => h9) rfl dc_Wd_integer_27 ?_
          refine lv_iconst (v := nI 1) hx hb dc_Wd_integer_30 (by decide +kernel) ?_
          refine kn_iadd hx hb dc_Wd_integer_31 ?_
          refine lv_goto hx hb dc_Wd_integer_32 rfl ?_
          refine lv_istore_n (lv' := [(2, .int (nI (ga + 1))), (1, .int (nI 1)), (0, .ref w)]) hx hb dc_Wd_integer_39 rfl hl (by decide) rfl (fun ls hl => ?_)
          refine lv_iload_n hx hb dc_Wd_integer_40 rfl (lv_at hl 0 rfl) ?_
          refine lv_aload_n hx hb dc_Wd_integer_41 rfl (lv_at hl 2 rfl) ?_
          refine va_get (ci := 1) (v := .int (nI gb)) (C := rn_Wd) (T := fd_Wd) (N := 3) hx hb hts in_Wd hown hK hP 0 rfl rfl 2 (by decide) (hts _ wd_319) (fun _ h9 => h9) rfl dc_Wd_integer_42 ?_
          refine kn_icmp_ge hx hb (by omega) (by omega) dc_Wd_integer_45 rfl (fun hc45 => ?_) (fun hc45 => ?_)
          · refine lv_sipush (v := (-1000)) hx hb dc_Wd_integer_61 (by decide +kernel) ?_
            exact kr_iret hx hb hr hlocks dc_Wd_integer_64 (by rw [iv_n ⟨by omega, hneg⟩, if_pos (Or.inl (by omega))])
          · refine lv_aload_n hx hb dc_Wd_integer_48 rfl (lv_at hl 2 rfl) ?_
            refine va_get (ci := 1) (v := .int (nI gb)) (C := rn_Wd) (T := fd_Wd) (N := 3) hx hb hts in_Wd hown hK hP 0 rfl rfl 2 (by decide) (hts _ wd_319) (fun _ h9 => h9) rfl dc_Wd_integer_49 ?_
            refine lv_aload_n hx hb dc_Wd_integer_52 rfl (lv_at hl 2 rfl) ?_
            refine va_get (ci := 1) (v := .int (nI ga)) (C := rn_Wd) (T := fd_Wd) (N := 3) hx hb hts in_Wd hown hK hP 0 rfl rfl 1 (by decide) (hts _ wd_318) (fun _ h9 => h9) rfl dc_Wd_integer_53 ?_
            refine kn_isub hx hb (by omega) dc_Wd_integer_56 ?_
            refine lv_iconst (v := nI 3) hx hb dc_Wd_integer_57 (by decide +kernel) ?_
            refine kn_icmp_le hx hb (by omega) (by omega) dc_Wd_integer_58 rfl (fun hc58 => ?_) (fun hc58 => ?_)
            · refine lv_aload_n hx hb dc_Wd_integer_65 rfl (lv_at hl 2 rfl) ?_
              refine va_get (ci := 1) (v := .ref o) (C := rn_Wd) (T := fd_Wd) (N := 3) hx hb hts in_Wd hown hK hP 0 rfl rfl 0 (by decide) (hts _ wd_317) (fun _ h9 => h9) rfl dc_Wd_integer_66 ?_
              refine lv_iload_n hx hb dc_Wd_integer_69 rfl (lv_at hl 0 rfl) ?_
              refine kr_call1 (va_runV (As := [.int (nI (ga + 1))]) (rest := []) ⟨hx, hb, hml, hown, hts⟩ (ct_Tx_atn l D cI cZ _ o a N n t (ga + 1) (by omega) (by omega) (by omega)) (cwV 1 hts (kx_gV wd_313 wd_293 wd_294 wd_2 wd_295) rfl rfl rfl ⟨rfl, yd_Tx_at⟩ ⟨Nat.le_of_ble_eq_true rfl, Nat.le_of_ble_eq_true rfl⟩) (kp_V (q0 := 1) (ci := 0) hP hD hK hN [1, 2] rfl rfl rfl rfl rfl) rfl rfl hl.1 rfl (lv_room (Nat.le_of_ble_eq_true rfl)) dc_Wd_integer_70 ⟨Nat.le_of_ble_eq_true rfl, Nat.le_of_ble_eq_true rfl⟩) ?_
              refine lv_bipush (v := nI 48) hx hb dc_Wd_integer_73 (by decide +kernel) ?_
              refine kn_icmp_ne hx hb (Nat.lt_trans (ht (ga + 1)) (by decide)) (by omega) dc_Wd_integer_75 rfl (fun hc75 => ?_) (fun hc75 => ?_)
              · have hno : ¬ (gb ≤ ga + 1 ∨ 3 < gb - ga ∨ t (ga + 1) = 48) := fun q => by omega
                refine lv_iconst (v := nI 0) hx hb dc_Wd_integer_95 (by decide +kernel) ?_
                refine lv_istore_n (lv' := [(3, .int (nI 0)), (2, .int (nI (ga + 1))), (1, .int (nI 1)), (0, .ref w)]) hx hb dc_Wd_integer_96 rfl hl (by decide) rfl (fun ls hl => ?_)
                refine lv_iload_n hx hb dc_Wd_integer_97 rfl (lv_at hl 1 rfl) ?_
                refine lv_istore (lv' := [(4, .int (nI (ga + 1))), (3, .int (nI 0)), (2, .int (nI (ga + 1))), (1, .int (nI 1)), (0, .ref w)]) hx hb dc_Wd_integer_98 hl (by decide) rfl (fun ls hl => ?_)
                have lp_100 : ∀ (K : Nat) (i : Nat) (v : Nat) (ls : Array Slot), gb - i < K → lv_has ls 6 [(4, .int (nI i)), (3, .int (nI v)), (2, .int (nI (ga + 1))), (1, .int (nI 1)), (0, .ref w)] → (pt_dg t (gb - i) i v = pt_dg t (gb - (ga + 1)) (ga + 1) 0) → (ga + 1 ≤ i ∧ i ≤ gb) → W p l e ({ frames := 1, cells := 0, slots := 0, locals := 21 } : Room) s m ([.ref w] : List Value).toArray below meth c s.heap [] 0 0 (MQ below (kr_q (some (.int (pt_intv t ga gb)))) ([.ref w] : List Value).toArray s 0 0 (fun _ => False)) (F0 m 100 ls []) := by
                  intro K
                  induction K with
                  | zero =>
                    intro i v ls hk
                    exact absurd hk (Nat.not_lt_zero _)
                  | succ K ih =>
                    intro i v ls hk hl h1 h2
                    refine lv_iload hx hb dc_Wd_integer_100 (lv_at hl 0 rfl) ?_
                    refine lv_aload_n hx hb dc_Wd_integer_102 rfl (lv_at hl 4 rfl) ?_
                    refine va_get (ci := 1) (v := .int (nI gb)) (C := rn_Wd) (T := fd_Wd) (N := 3) hx hb hts in_Wd hown hK hP 0 rfl rfl 2 (by decide) (hts _ wd_319) (fun _ h9 => h9) rfl dc_Wd_integer_103 ?_
                    refine kn_icmp_ge hx hb (by omega) (by omega) dc_Wd_integer_106 rfl (fun hc106 => ?_) (fun hc106 => ?_)
                    · refine lv_iload_n hx hb dc_Wd_integer_153 rfl (lv_at hl 3 rfl) ?_
                      refine kn_if_eq hx hb (by omega) dc_Wd_integer_154 rfl (fun hc154 => ?_) (fun hc154 => ?_)
                      · exact absurd hc154 (by decide)
                      · refine lv_iload_n hx hb dc_Wd_integer_157 rfl (lv_at hl 1 rfl) ?_
                        refine lv_ineg hx hb dc_Wd_integer_158 ?_
                        refine lv_goto hx hb dc_Wd_integer_159 rfl ?_
                        exact kr_iret hx hb hr hlocks dc_Wd_integer_163 (by rw [iv_n ⟨by omega, hneg⟩, if_neg hno, ← h1, dg_en (by omega)]; rfl)
                    · refine lv_aload_n hx hb dc_Wd_integer_109 rfl (lv_at hl 4 rfl) ?_
                      refine va_get (ci := 1) (v := .ref o) (C := rn_Wd) (T := fd_Wd) (N := 3) hx hb hts in_Wd hown hK hP 0 rfl rfl 0 (by decide) (hts _ wd_317) (fun _ h9 => h9) rfl dc_Wd_integer_110 ?_
                      refine lv_iload hx hb dc_Wd_integer_113 (lv_at hl 0 rfl) ?_
                      refine kr_call1 (va_runV (As := [.int (nI i)]) (rest := []) ⟨hx, hb, hml, hown, hts⟩ (ct_Tx_atn l D cI cZ _ o a N n t i (by omega) (by omega) (by omega)) (cwV 1 hts (kx_gV wd_313 wd_293 wd_294 wd_2 wd_295) rfl rfl rfl ⟨rfl, yd_Tx_at⟩ ⟨Nat.le_of_ble_eq_true rfl, Nat.le_of_ble_eq_true rfl⟩) (kp_V (q0 := 1) (ci := 0) hP hD hK hN [1, 2] rfl rfl rfl rfl rfl) rfl rfl hl.1 rfl (lv_room (Nat.le_of_ble_eq_true rfl)) dc_Wd_integer_115 ⟨Nat.le_of_ble_eq_true rfl, Nat.le_of_ble_eq_true rfl⟩) ?_
                      have h256 := ht i
                      by_cases h48 : 48 ≤ t i
                      · refine lv_bipush (v := nI 48) hx hb dc_Wd_integer_118 (by decide +kernel) ?_
                        refine kn_isub hx hb (by omega) dc_Wd_integer_120 ?_
                        refine lv_istore (lv' := [(5, .int (nI ((t i) - 48))), (4, .int (nI i)), (3, .int (nI v)), (2, .int (nI (ga + 1))), (1, .int (nI 1)), (0, .ref w)]) hx hb dc_Wd_integer_121 hl (by decide) rfl (fun ls hl => ?_)
                        refine lv_iload hx hb dc_Wd_integer_123 (lv_at hl 0 rfl) ?_
                        refine lv_if_lt hx hb dc_Wd_integer_125 rfl (fun hc125 => ?_) (fun hc125 => ?_)
                        · exact absurd hc125 (nI_pos (by omega))
                        · refine lv_iload hx hb dc_Wd_integer_128 (lv_at hl 0 rfl) ?_
                          refine lv_bipush (v := nI 9) hx hb dc_Wd_integer_130 (by decide +kernel) ?_
                          refine kn_icmp_le hx hb (by omega) (by omega) dc_Wd_integer_132 rfl (fun hc132 => ?_) (fun hc132 => ?_)
                          · refine lv_iload_n hx hb dc_Wd_integer_139 rfl (lv_at hl 2 rfl) ?_
                            refine lv_bipush (v := nI 10) hx hb dc_Wd_integer_140 (by decide +kernel) ?_
                            refine kn_imul hx hb dc_Wd_integer_142 ?_
                            refine lv_iload hx hb dc_Wd_integer_143 (lv_at hl 0 rfl) ?_
                            refine kn_iadd hx hb dc_Wd_integer_145 ?_
                            refine lv_istore_n (lv' := [(3, .int (nI ((v * 10) + ((t i) - 48)))), (5, .int (nI ((t i) - 48))), (4, .int (nI i)), (2, .int (nI (ga + 1))), (1, .int (nI 1)), (0, .ref w)]) hx hb dc_Wd_integer_146 rfl hl (by decide) rfl (fun ls hl => ?_)
                            refine lv_iinc (k := 2) (v := nI (i + 1)) (lv' := [(4, .int (nI (i + 1))), (3, .int (nI ((v * 10) + ((t i) - 48)))), (5, .int (nI ((t i) - 48))), (2, .int (nI (ga + 1))), (1, .int (nI 1)), (0, .ref w)]) hx hb dc_Wd_integer_147 hl rfl (nI_1 _) (by decide) rfl (fun ls hl => ?_)
                            refine lv_goto hx hb dc_Wd_integer_150 rfl ?_
                            have hl := lv_sub (l' := [(4, .int (nI (i + 1))), (3, .int (nI ((v * 10) + ((t i) - 48)))), (2, .int (nI (ga + 1))), (1, .int (nI 1)), (0, .ref w)]) hl [0, 1, 3, 4, 5] rfl
                            exact ih _ _ _ (by omega) hl (by rw [← h1]; exact (dg_st (by omega) ⟨by omega, by omega⟩).symm) (⟨by omega, by omega⟩)
                          · refine lv_sipush (v := (-1000)) hx hb dc_Wd_integer_135 (by decide +kernel) ?_
                            exact kr_iret hx hb hr hlocks dc_Wd_integer_138 (by rw [iv_n ⟨by omega, hneg⟩, if_neg hno, ← h1, dg_no (by omega) (fun q => by omega)]; rfl)
                      · refine lv_bipush (v := nI 48) hx hb dc_Wd_integer_118 (by decide +kernel) ?_
                        refine lv_isub hx hb dc_Wd_integer_120 ?_
                        refine lv_istore (lv' := [(5, .int ((nI (t i)) - (nI 48))), (4, .int (nI i)), (3, .int (nI v)), (2, .int (nI (ga + 1))), (1, .int (nI 1)), (0, .ref w)]) hx hb dc_Wd_integer_121 hl (by decide) rfl (fun ls hl => ?_)
                        refine lv_iload hx hb dc_Wd_integer_123 (lv_at hl 0 rfl) ?_
                        refine lv_if_lt hx hb dc_Wd_integer_125 rfl (fun hc125 => ?_) (fun hc125 => ?_)
                        · refine lv_sipush (v := (-1000)) hx hb dc_Wd_integer_135 (by decide +kernel) ?_
                          exact kr_iret hx hb hr hlocks dc_Wd_integer_138 (by rw [iv_n ⟨by omega, hneg⟩, if_neg hno, ← h1, dg_no (by omega) (fun q => by omega)]; rfl)
                        · exact absurd (pk_sneg (by decide) (by omega)) hc125
                exact lp_100 _ _ _ _ (Nat.lt_succ_self _) hl (rfl) (⟨by omega, by omega⟩)
              · refine lv_aload_n hx hb dc_Wd_integer_78 rfl (lv_at hl 2 rfl) ?_
                refine va_get (ci := 1) (v := .int (nI gb)) (C := rn_Wd) (T := fd_Wd) (N := 3) hx hb hts in_Wd hown hK hP 0 rfl rfl 2 (by decide) (hts _ wd_319) (fun _ h9 => h9) rfl dc_Wd_integer_79 ?_
                refine lv_aload_n hx hb dc_Wd_integer_82 rfl (lv_at hl 2 rfl) ?_
                refine va_get (ci := 1) (v := .int (nI ga)) (C := rn_Wd) (T := fd_Wd) (N := 3) hx hb hts in_Wd hown hK hP 0 rfl rfl 1 (by decide) (hts _ wd_318) (fun _ h9 => h9) rfl dc_Wd_integer_83 ?_
                refine kn_isub hx hb (by omega) dc_Wd_integer_86 ?_
                refine lv_iconst (v := nI 1) hx hb dc_Wd_integer_87 (by decide +kernel) ?_
                refine kn_icmp_le hx hb (by omega) (by omega) dc_Wd_integer_88 rfl (fun hc88 => ?_) (fun hc88 => ?_)
                · exfalso; omega
                · refine lv_sipush (v := (-1000)) hx hb dc_Wd_integer_91 (by decide +kernel) ?_
                  exact kr_iret hx hb hr hlocks dc_Wd_integer_94 (by rw [iv_n ⟨by omega, hneg⟩, if_pos (Or.inr (Or.inr (hc75)))])
            · refine lv_sipush (v := (-1000)) hx hb dc_Wd_integer_61 (by decide +kernel) ?_
              exact kr_iret hx hb hr hlocks dc_Wd_integer_64 (by rw [iv_n ⟨by omega, hneg⟩, if_pos (Or.inr (Or.inl (by omega)))])
    · refine lv_bipush (v := nI 45) hx hb dc_Wd_integer_11 (by decide +kernel) ?_
      refine kn_icmp_ne hx hb (Nat.lt_trans (ht ga) (by decide)) (by omega) dc_Wd_integer_13 rfl (fun hc13 => ?_) (fun hc13 => ?_)
      · refine lv_iconst (v := nI 0) hx hb dc_Wd_integer_20 (by decide +kernel) ?_
        refine lv_istore_n (lv' := [(1, .int (nI 0)), (0, .ref w)]) hx hb dc_Wd_integer_21 rfl hl (by decide) rfl (fun ls hl => ?_)
        refine lv_iload_n hx hb dc_Wd_integer_22 rfl (lv_at hl 0 rfl) ?_
        refine kn_if_eq hx hb (by omega) dc_Wd_integer_23 rfl (fun hc23 => ?_) (fun hc23 => ?_)
        · refine lv_aload_n hx hb dc_Wd_integer_35 rfl (lv_at hl 1 rfl) ?_
          refine va_get (ci := 1) (v := .int (nI ga)) (C := rn_Wd) (T := fd_Wd) (N := 3) hx hb hts in_Wd hown hK hP 0 rfl rfl 1 (by decide) (hts _ wd_318) (fun _ h9 => h9) rfl dc_Wd_integer_36 ?_
          refine lv_istore_n (lv' := [(2, .int (nI ga)), (1, .int (nI 0)), (0, .ref w)]) hx hb dc_Wd_integer_39 rfl hl (by decide) rfl (fun ls hl => ?_)
          refine lv_iload_n hx hb dc_Wd_integer_40 rfl (lv_at hl 0 rfl) ?_
          refine lv_aload_n hx hb dc_Wd_integer_41 rfl (lv_at hl 2 rfl) ?_
          refine va_get (ci := 1) (v := .int (nI gb)) (C := rn_Wd) (T := fd_Wd) (N := 3) hx hb hts in_Wd hown hK hP 0 rfl rfl 2 (by decide) (hts _ wd_319) (fun _ h9 => h9) rfl dc_Wd_integer_42 ?_
          refine kn_icmp_ge hx hb (by omega) (by omega) dc_Wd_integer_45 rfl (fun hc45 => ?_) (fun hc45 => ?_)
          · refine lv_sipush (v := (-1000)) hx hb dc_Wd_integer_61 (by decide +kernel) ?_
            exact kr_iret hx hb hr hlocks dc_Wd_integer_64 (by rw [iv_p (fun q => hneg q.2), if_pos (Or.inl (by omega))])
          · refine lv_aload_n hx hb dc_Wd_integer_48 rfl (lv_at hl 2 rfl) ?_
            refine va_get (ci := 1) (v := .int (nI gb)) (C := rn_Wd) (T := fd_Wd) (N := 3) hx hb hts in_Wd hown hK hP 0 rfl rfl 2 (by decide) (hts _ wd_319) (fun _ h9 => h9) rfl dc_Wd_integer_49 ?_
            refine lv_aload_n hx hb dc_Wd_integer_52 rfl (lv_at hl 2 rfl) ?_
            refine va_get (ci := 1) (v := .int (nI ga)) (C := rn_Wd) (T := fd_Wd) (N := 3) hx hb hts in_Wd hown hK hP 0 rfl rfl 1 (by decide) (hts _ wd_318) (fun _ h9 => h9) rfl dc_Wd_integer_53 ?_
            refine kn_isub hx hb (by omega) dc_Wd_integer_56 ?_
            refine lv_iconst (v := nI 3) hx hb dc_Wd_integer_57 (by decide +kernel) ?_
            refine kn_icmp_le hx hb (by omega) (by omega) dc_Wd_integer_58 rfl (fun hc58 => ?_) (fun hc58 => ?_)
            · refine lv_aload_n hx hb dc_Wd_integer_65 rfl (lv_at hl 2 rfl) ?_
              refine va_get (ci := 1) (v := .ref o) (C := rn_Wd) (T := fd_Wd) (N := 3) hx hb hts in_Wd hown hK hP 0 rfl rfl 0 (by decide) (hts _ wd_317) (fun _ h9 => h9) rfl dc_Wd_integer_66 ?_
              refine lv_iload_n hx hb dc_Wd_integer_69 rfl (lv_at hl 0 rfl) ?_
              refine kr_call1 (va_runV (As := [.int (nI ga)]) (rest := []) ⟨hx, hb, hml, hown, hts⟩ (ct_Tx_atn l D cI cZ _ o a N n t ga (by omega) (by omega) (by omega)) (cwV 1 hts (kx_gV wd_313 wd_293 wd_294 wd_2 wd_295) rfl rfl rfl ⟨rfl, yd_Tx_at⟩ ⟨Nat.le_of_ble_eq_true rfl, Nat.le_of_ble_eq_true rfl⟩) (kp_V (q0 := 1) (ci := 0) hP hD hK hN [1, 2] rfl rfl rfl rfl rfl) rfl rfl hl.1 rfl (lv_room (Nat.le_of_ble_eq_true rfl)) dc_Wd_integer_70 ⟨Nat.le_of_ble_eq_true rfl, Nat.le_of_ble_eq_true rfl⟩) ?_
              refine lv_bipush (v := nI 48) hx hb dc_Wd_integer_73 (by decide +kernel) ?_
              refine kn_icmp_ne hx hb (Nat.lt_trans (ht ga) (by decide)) (by omega) dc_Wd_integer_75 rfl (fun hc75 => ?_) (fun hc75 => ?_)
              · have hno : ¬ (gb ≤ ga ∨ 3 < gb - ga ∨ (t ga = 48 ∧ 1 < gb - ga)) := fun q => by omega
                refine lv_iconst (v := nI 0) hx hb dc_Wd_integer_95 (by decide +kernel) ?_
                refine lv_istore_n (lv' := [(3, .int (nI 0)), (2, .int (nI ga)), (1, .int (nI 0)), (0, .ref w)]) hx hb dc_Wd_integer_96 rfl hl (by decide) rfl (fun ls hl => ?_)
                refine lv_iload_n hx hb dc_Wd_integer_97 rfl (lv_at hl 1 rfl) ?_
                refine lv_istore (lv' := [(4, .int (nI ga)), (3, .int (nI 0)), (2, .int (nI ga)), (1, .int (nI 0)), (0, .ref w)]) hx hb dc_Wd_integer_98 hl (by decide) rfl (fun ls hl => ?_)
                have lp_100 : ∀ (K : Nat) (i : Nat) (v : Nat) (ls : Array Slot), gb - i < K → lv_has ls 6 [(4, .int (nI i)), (3, .int (nI v)), (2, .int (nI ga)), (1, .int (nI 0)), (0, .ref w)] → (pt_dg t (gb - i) i v = pt_dg t (gb - (ga)) (ga) 0) → (ga ≤ i ∧ i ≤ gb) → W p l e ({ frames := 1, cells := 0, slots := 0, locals := 21 } : Room) s m ([.ref w] : List Value).toArray below meth c s.heap [] 0 0 (MQ below (kr_q (some (.int (pt_intv t ga gb)))) ([.ref w] : List Value).toArray s 0 0 (fun _ => False)) (F0 m 100 ls []) := by
                  intro K
                  induction K with
                  | zero =>
                    intro i v ls hk
                    exact absurd hk (Nat.not_lt_zero _)
                  | succ K ih =>
                    intro i v ls hk hl h1 h2
                    refine lv_iload hx hb dc_Wd_integer_100 (lv_at hl 0 rfl) ?_
                    refine lv_aload_n hx hb dc_Wd_integer_102 rfl (lv_at hl 4 rfl) ?_
                    refine va_get (ci := 1) (v := .int (nI gb)) (C := rn_Wd) (T := fd_Wd) (N := 3) hx hb hts in_Wd hown hK hP 0 rfl rfl 2 (by decide) (hts _ wd_319) (fun _ h9 => h9) rfl dc_Wd_integer_103 ?_
                    refine kn_icmp_ge hx hb (by omega) (by omega) dc_Wd_integer_106 rfl (fun hc106 => ?_) (fun hc106 => ?_)
                    · refine lv_iload_n hx hb dc_Wd_integer_153 rfl (lv_at hl 3 rfl) ?_
                      refine kn_if_eq hx hb (by omega) dc_Wd_integer_154 rfl (fun hc154 => ?_) (fun hc154 => ?_)
                      · refine lv_iload_n hx hb dc_Wd_integer_162 rfl (lv_at hl 1 rfl) ?_
                        exact kr_iret hx hb hr hlocks dc_Wd_integer_163 (by rw [iv_p (fun q => hneg q.2), if_neg hno, ← h1, dg_en (by omega)]; rfl)
                      · exact absurd rfl hc154
                    · refine lv_aload_n hx hb dc_Wd_integer_109 rfl (lv_at hl 4 rfl) ?_
                      refine va_get (ci := 1) (v := .ref o) (C := rn_Wd) (T := fd_Wd) (N := 3) hx hb hts in_Wd hown hK hP 0 rfl rfl 0 (by decide) (hts _ wd_317) (fun _ h9 => h9) rfl dc_Wd_integer_110 ?_
                      refine lv_iload hx hb dc_Wd_integer_113 (lv_at hl 0 rfl) ?_
                      refine kr_call1 (va_runV (As := [.int (nI i)]) (rest := []) ⟨hx, hb, hml, hown, hts⟩ (ct_Tx_atn l D cI cZ _ o a N n t i (by omega) (by omega) (by omega)) (cwV 1 hts (kx_gV wd_313 wd_293 wd_294 wd_2 wd_295) rfl rfl rfl ⟨rfl, yd_Tx_at⟩ ⟨Nat.le_of_ble_eq_true rfl, Nat.le_of_ble_eq_true rfl⟩) (kp_V (q0 := 1) (ci := 0) hP hD hK hN [1, 2] rfl rfl rfl rfl rfl) rfl rfl hl.1 rfl (lv_room (Nat.le_of_ble_eq_true rfl)) dc_Wd_integer_115 ⟨Nat.le_of_ble_eq_true rfl, Nat.le_of_ble_eq_true rfl⟩) ?_
                      have h256 := ht i
                      by_cases h48 : 48 ≤ t i
                      · refine lv_bipush (v := nI 48) hx hb dc_Wd_integer_118 (by decide +kernel) ?_
                        refine kn_isub hx hb (by omega) dc_Wd_integer_120 ?_
                        refine lv_istore (lv' := [(5, .int (nI ((t i) - 48))), (4, .int (nI i)), (3, .int (nI v)), (2, .int (nI ga)), (1, .int (nI 0)), (0, .ref w)]) hx hb dc_Wd_integer_121 hl (by decide) rfl (fun ls hl => ?_)
                        refine lv_iload hx hb dc_Wd_integer_123 (lv_at hl 0 rfl) ?_
                        refine lv_if_lt hx hb dc_Wd_integer_125 rfl (fun hc125 => ?_) (fun hc125 => ?_)
                        · exact absurd hc125 (nI_pos (by omega))
                        · refine lv_iload hx hb dc_Wd_integer_128 (lv_at hl 0 rfl) ?_
                          refine lv_bipush (v := nI 9) hx hb dc_Wd_integer_130 (by decide +kernel) ?_
                          refine kn_icmp_le hx hb (by omega) (by omega) dc_Wd_integer_132 rfl (fun hc132 => ?_) (fun hc132 => ?_)
                          · refine lv_iload_n hx hb dc_Wd_integer_139 rfl (lv_at hl 2 rfl) ?_
                            refine lv_bipush (v := nI 10) hx hb dc_Wd_integer_140 (by decide +kernel) ?_
                            refine kn_imul hx hb dc_Wd_integer_142 ?_
                            refine lv_iload hx hb dc_Wd_integer_143 (lv_at hl 0 rfl) ?_
                            refine kn_iadd hx hb dc_Wd_integer_145 ?_
                            refine lv_istore_n (lv' := [(3, .int (nI ((v * 10) + ((t i) - 48)))), (5, .int (nI ((t i) - 48))), (4, .int (nI i)), (2, .int (nI ga)), (1, .int (nI 0)), (0, .ref w)]) hx hb dc_Wd_integer_146 rfl hl (by decide) rfl (fun ls hl => ?_)
                            refine lv_iinc (k := 2) (v := nI (i + 1)) (lv' := [(4, .int (nI (i + 1))), (3, .int (nI ((v * 10) + ((t i) - 48)))), (5, .int (nI ((t i) - 48))), (2, .int (nI ga)), (1, .int (nI 0)), (0, .ref w)]) hx hb dc_Wd_integer_147 hl rfl (nI_1 _) (by decide) rfl (fun ls hl => ?_)
                            refine lv_goto hx hb dc_Wd_integer_150 rfl ?_
                            have hl := lv_sub (l' := [(4, .int (nI (i + 1))), (3, .int (nI ((v * 10) + ((t i) - 48)))), (2, .int (nI ga)), (1, .int (nI 0)), (0, .ref w)]) hl [0, 1, 3, 4, 5] rfl
                            exact ih _ _ _ (by omega) hl (by rw [← h1]; exact (dg_st (by omega) ⟨by omega, by omega⟩).symm) (⟨by omega, by omega⟩)
                          · refine lv_sipush (v := (-1000)) hx hb dc_Wd_integer_135 (by decide +kernel) ?_
                            exact kr_iret hx hb hr hlocks dc_Wd_integer_138 (by rw [iv_p (fun q => hneg q.2), if_neg hno, ← h1, dg_no (by omega) (fun q => by omega)]; rfl)
                      · refine lv_bipush (v := nI 48) hx hb dc_Wd_integer_118 (by decide +kernel) ?_
                        refine lv_isub hx hb dc_Wd_integer_120 ?_
                        refine lv_istore (lv' := [(5, .int ((nI (t i)) - (nI 48))), (4, .int (nI i)), (3, .int (nI v)), (2, .int (nI ga)), (1, .int (nI 0)), (0, .ref w)]) hx hb dc_Wd_integer_121 hl (by decide) rfl (fun ls hl => ?_)
                        refine lv_iload hx hb dc_Wd_integer_123 (lv_at hl 0 rfl) ?_
                        refine lv_if_lt hx hb dc_Wd_integer_125 rfl (fun hc125 => ?_) (fun hc125 => ?_)
                        · refine lv_sipush (v := (-1000)) hx hb dc_Wd_integer_135 (by decide +kernel) ?_
                          exact kr_iret hx hb hr hlocks dc_Wd_integer_138 (by rw [iv_p (fun q => hneg q.2), if_neg hno, ← h1, dg_no (by omega) (fun q => by omega)]; rfl)
                        · exact absurd (pk_sneg (by decide) (by omega)) hc125
                exact lp_100 _ _ _ _ (Nat.lt_succ_self _) hl (rfl) (⟨by omega, by omega⟩)
              · refine lv_aload_n hx hb dc_Wd_integer_78 rfl (lv_at hl 2 rfl) ?_
                refine va_get (ci := 1) (v := .int (nI gb)) (C := rn_Wd) (T := fd_Wd) (N := 3) hx hb hts in_Wd hown hK hP 0 rfl rfl 2 (by decide) (hts _ wd_319) (fun _ h9 => h9) rfl dc_Wd_integer_79 ?_
                refine lv_aload_n hx hb dc_Wd_integer_82 rfl (lv_at hl 2 rfl) ?_
                refine va_get (ci := 1) (v := .int (nI ga)) (C := rn_Wd) (T := fd_Wd) (N := 3) hx hb hts in_Wd hown hK hP 0 rfl rfl 1 (by decide) (hts _ wd_318) (fun _ h9 => h9) rfl dc_Wd_integer_83 ?_
                refine kn_isub hx hb (by omega) dc_Wd_integer_86 ?_
                refine lv_iconst (v := nI 1) hx hb dc_Wd_integer_87 (by decide +kernel) ?_
                refine kn_icmp_le hx hb (by omega) (by omega) dc_Wd_integer_88 rfl (fun hc88 => ?_) (fun hc88 => ?_)
                · have hno : ¬ (gb ≤ ga ∨ 3 < gb - ga ∨ (t ga = 48 ∧ 1 < gb - ga)) := fun q => by omega
                  refine lv_iconst (v := nI 0) hx hb dc_Wd_integer_95 (by decide +kernel) ?_
                  refine lv_istore_n (lv' := [(3, .int (nI 0)), (2, .int (nI ga)), (1, .int (nI 0)), (0, .ref w)]) hx hb dc_Wd_integer_96 rfl hl (by decide) rfl (fun ls hl => ?_)
                  refine lv_iload_n hx hb dc_Wd_integer_97 rfl (lv_at hl 1 rfl) ?_
                  refine lv_istore (lv' := [(4, .int (nI ga)), (3, .int (nI 0)), (2, .int (nI ga)), (1, .int (nI 0)), (0, .ref w)]) hx hb dc_Wd_integer_98 hl (by decide) rfl (fun ls hl => ?_)
                  have lp_100 : ∀ (K : Nat) (i : Nat) (v : Nat) (ls : Array Slot), gb - i < K → lv_has ls 6 [(4, .int (nI i)), (3, .int (nI v)), (2, .int (nI ga)), (1, .int (nI 0)), (0, .ref w)] → (pt_dg t (gb - i) i v = pt_dg t (gb - (ga)) (ga) 0) → (ga ≤ i ∧ i ≤ gb) → W p l e ({ frames := 1, cells := 0, slots := 0, locals := 21 } : Room) s m ([.ref w] : List Value).toArray below meth c s.heap [] 0 0 (MQ below (kr_q (some (.int (pt_intv t ga gb)))) ([.ref w] : List Value).toArray s 0 0 (fun _ => False)) (F0 m 100 ls []) := by
                    intro K
                    induction K with
                    | zero =>
                      intro i v ls hk
                      exact absurd hk (Nat.not_lt_zero _)
                    | succ K ih =>
                      intro i v ls hk hl h1 h2
                      refine lv_iload hx hb dc_Wd_integer_100 (lv_at hl 0 rfl) ?_
                      refine lv_aload_n hx hb dc_Wd_integer_102 rfl (lv_at hl 4 rfl) ?_
                      refine va_get (ci := 1) (v := .int (nI gb)) (C := rn_Wd) (T := fd_Wd) (N := 3) hx hb hts in_Wd hown hK hP 0 rfl rfl 2 (by decide) (hts _ wd_319) (fun _ h9 => h9) rfl dc_Wd_integer_103 ?_
                      refine kn_icmp_ge hx hb (by omega) (by omega) dc_Wd_integer_106 rfl (fun hc106 => ?_) (fun hc106 => ?_)
                      · refine lv_iload_n hx hb dc_Wd_integer_153 rfl (lv_at hl 3 rfl) ?_
                        refine kn_if_eq hx hb (by omega) dc_Wd_integer_154 rfl (fun hc154 => ?_) (fun hc154 => ?_)
                        · refine lv_iload_n hx hb dc_Wd_integer_162 rfl (lv_at hl 1 rfl) ?_
                          exact kr_iret hx hb hr hlocks dc_Wd_integer_163 (by rw [iv_p (fun q => hneg q.2), if_neg hno, ← h1, dg_en (by omega)]; rfl)
                        · exact absurd rfl hc154
                      · refine lv_aload_n hx hb dc_Wd_integer_109 rfl (lv_at hl 4 rfl) ?_
                        refine va_get (ci := 1) (v := .ref o) (C := rn_Wd) (T := fd_Wd) (N := 3) hx hb hts in_Wd hown hK hP 0 rfl rfl 0 (by decide) (hts _ wd_317) (fun _ h9 => h9) rfl dc_Wd_integer_110 ?_
                        refine lv_iload hx hb dc_Wd_integer_113 (lv_at hl 0 rfl) ?_
                        refine kr_call1 (va_runV (As := [.int (nI i)]) (rest := []) ⟨hx, hb, hml, hown, hts⟩ (ct_Tx_atn l D cI cZ _ o a N n t i (by omega) (by omega) (by omega)) (cwV 1 hts (kx_gV wd_313 wd_293 wd_294 wd_2 wd_295) rfl rfl rfl ⟨rfl, yd_Tx_at⟩ ⟨Nat.le_of_ble_eq_true rfl, Nat.le_of_ble_eq_true rfl⟩) (kp_V (q0 := 1) (ci := 0) hP hD hK hN [1, 2] rfl rfl rfl rfl rfl) rfl rfl hl.1 rfl (lv_room (Nat.le_of_ble_eq_true rfl)) dc_Wd_integer_115 ⟨Nat.le_of_ble_eq_true rfl, Nat.le_of_ble_eq_true rfl⟩) ?_
                        have h256 := ht i
                        by_cases h48 : 48 ≤ t i
                        · refine lv_bipush (v := nI 48) hx hb dc_Wd_integer_118 (by decide +kernel) ?_
                          refine kn_isub hx hb (by omega) dc_Wd_integer_120 ?_
                          refine lv_istore (lv' := [(5, .int (nI ((t i) - 48))), (4, .int (nI i)), (3, .int (nI v)), (2, .int (nI ga)), (1, .int (nI 0)), (0, .ref w)]) hx hb dc_Wd_integer_121 hl (by decide) rfl (fun ls hl => ?_)
                          refine lv_iload hx hb dc_Wd_integer_123 (lv_at hl 0 rfl) ?_
                          refine lv_if_lt hx hb dc_Wd_integer_125 rfl (fun hc125 => ?_) (fun hc125 => ?_)
                          · exact absurd hc125 (nI_pos (by omega))
                          · refine lv_iload hx hb dc_Wd_integer_128 (lv_at hl 0 rfl) ?_
                            refine lv_bipush (v := nI 9) hx hb dc_Wd_integer_130 (by decide +kernel) ?_
                            refine kn_icmp_le hx hb (by omega) (by omega) dc_Wd_integer_132 rfl (fun hc132 => ?_) (fun hc132 => ?_)
                            · refine lv_iload_n hx hb dc_Wd_integer_139 rfl (lv_at hl 2 rfl) ?_
                              refine lv_bipush (v := nI 10) hx hb dc_Wd_integer_140 (by decide +kernel) ?_
                              refine kn_imul hx hb dc_Wd_integer_142 ?_
                              refine lv_iload hx hb dc_Wd_integer_143 (lv_at hl 0 rfl) ?_
                              refine kn_iadd hx hb dc_Wd_integer_145 ?_
                              refine lv_istore_n (lv' := [(3, .int (nI ((v * 10) + ((t i) - 48)))), (5, .int (nI ((t i) - 48))), (4, .int (nI i)), (2, .int (nI ga)), (1, .int (nI 0)), (0, .ref w)]) hx hb dc_Wd_integer_146 rfl hl (by decide) rfl (fun ls hl => ?_)
                              refine lv_iinc (k := 2) (v := nI (i + 1)) (lv' := [(4, .int (nI (i + 1))), (3, .int (nI ((v * 10) + ((t i) - 48)))), (5, .int (nI ((t i) - 48))), (2, .int (nI ga)), (1, .int (nI 0)), (0, .ref w)]) hx hb dc_Wd_integer_147 hl rfl (nI_1 _) (by decide) rfl (fun ls hl => ?_)
                              refine lv_goto hx hb dc_Wd_integer_150 rfl ?_
                              have hl := lv_sub (l' := [(4, .int (nI (i + 1))), (3, .int (nI ((v * 10) + ((t i) - 48)))), (2, .int (nI ga)), (1, .int (nI 0)), (0, .ref w)]) hl [0, 1, 3, 4, 5] rfl
                              exact ih _ _ _ (by omega) hl (by rw [← h1]; exact (dg_st (by omega) ⟨by omega, by omega⟩).symm) (⟨by omega, by omega⟩)
                            · refine lv_sipush (v := (-1000)) hx hb dc_Wd_integer_135 (by decide +kernel) ?_
                              exact kr_iret hx hb hr hlocks dc_Wd_integer_138 (by rw [iv_p (fun q => hneg q.2), if_neg hno, ← h1, dg_no (by omega) (fun q => by omega)]; rfl)
                        · refine lv_bipush (v := nI 48) hx hb dc_Wd_integer_118 (by decide +kernel) ?_
                          refine lv_isub hx hb dc_Wd_integer_120 ?_
                          refine lv_istore (lv' := [(5, .int ((nI (t i)) - (nI 48))), (4, .int (nI i)), (3, .int (nI v)), (2, .int (nI ga)), (1, .int (nI 0)), (0, .ref w)]) hx hb dc_Wd_integer_121 hl (by decide) rfl (fun ls hl => ?_)
                          refine lv_iload hx hb dc_Wd_integer_123 (lv_at hl 0 rfl) ?_
                          refine lv_if_lt hx hb dc_Wd_integer_125 rfl (fun hc125 => ?_) (fun hc125 => ?_)
                          · refine lv_sipush (v := (-1000)) hx hb dc_Wd_integer_135 (by decide +kernel) ?_
                            exact kr_iret hx hb hr hlocks dc_Wd_integer_138 (by rw [iv_p (fun q => hneg q.2), if_neg hno, ← h1, dg_no (by omega) (fun q => by omega)]; rfl)
                          · exact absurd (pk_sneg (by decide) (by omega)) hc125
                  exact lp_100 _ _ _ _ (Nat.lt_succ_self _) hl (rfl) (⟨by omega, by omega⟩)
                · refine lv_sipush (v := (-1000)) hx hb dc_Wd_integer_91 (by decide +kernel) ?_
                  exact kr_iret hx hb hr hlocks dc_Wd_integer_94 (by rw [iv_p (fun q => hneg q.2), if_pos (Or.inr (Or.inr (⟨hc75, by omega⟩)))])
            · refine lv_sipush (v := (-1000)) hx hb dc_Wd_integer_61 (by decide +kernel) ?_
              exact kr_iret hx hb hr hlocks dc_Wd_integer_64 (by rw [iv_p (fun q => hneg q.2), if_pos (Or.inr (Or.inl (by omega)))])
        · exact absurd rfl hc23
      · exact absurd hc13 hneg

set_option maxHeartbeats 4000000 in
set_option maxRecDepth 100000 in
theorem ct_Wd_advance (l : Launch) (D : va_G) (cI cZ : ClassId) (sz : Nat) (w : Nat) (o : Nat) (a : Nat) (N : Nat) (n : Nat) (t : Nat → Nat) (ga : Nat) (gb : Nat) (hN : N < 2 ^ 31) (hn : n ≤ N) (ht : ∀ j, t j < 256) (he : gb ≤ n) : Met l yn_Wd_advance (Cond.code yn_Wd_advance bc_Wd_advance 1 none :: kx_all) ({ frames := 2, cells := 0, slots := 0, locals := 43 } : Room) (kp [.ref w] D cI cZ [wo_c w o ga gb, tx_c o a n, ar_n cI a N t] sz) (kw_q none D kc_l [wo_c w o (pt_ws t n gb) (pt_we t n (pt_ws t n gb)), tx_c o a n, ar_n cI a N t] (va_A [wo_c w o ga gb, tx_c o a n, ar_n cI a N t] sz)) 0 0 (va_A [wo_c w o ga gb, tx_c o a n, ar_n cI a N t] sz) := by
  refine kx_metW (by decide) (Nat.le_of_ble_eq_true rfl) ?_
  intro p e s m below meth c ls A hx hb hr hml hts hown hlocks hin hA hP hK hD hN hl hS
  have hown : s.vm.findClass rn_Wd = some m.cls := hown
  have hl : lv_has ls 1 [(0, .ref w)] := hl
  refine lv_aload_n hx hb dc_Wd_advance_0 rfl (lv_at hl 0 rfl) ?_
  refine lv_aload_n hx hb dc_Wd_advance_1 rfl (lv_at hl 0 rfl) ?_
  refine va_get (ci := 1) (v := .ref o) (C := rn_Wd) (T := fd_Wd) (N := 3) hx hb hts in_Wd hown hK hP 0 rfl rfl 0 (by decide) (hts _ wd_317) (fun _ h9 => h9) rfl dc_Wd_advance_2 ?_
  refine lv_aload_n hx hb dc_Wd_advance_5 rfl (lv_at hl 0 rfl) ?_
  refine va_get (ci := 1) (v := .int (nI gb)) (C := rn_Wd) (T := fd_Wd) (N := 3) hx hb hts in_Wd hown hK hP 0 rfl rfl 2 (by decide) (hts _ wd_319) (fun _ h9 => h9) rfl dc_Wd_advance_6 ?_
  refine kr_call1 (va_runS (As := [.ref o, .int (nI gb)]) (rest := [.ref w]) ⟨hx, hb, hml, hown, hts⟩ (ct_Wd_gapsEnd l D cI cZ _ o a N n t gb (by omega) (by omega) (ht) (by omega)) (cwS 2 hts (kx_gS wd_310 wd_311 wd_10 wd_312) rfl rfl rfl ⟨rfl, yd_Wd_gapsEnd⟩ ⟨Nat.le_of_ble_eq_true rfl, Nat.le_of_ble_eq_true rfl⟩) (kp_S hP hD hK hN [1, 2] rfl rfl) rfl rfl hl.1 rfl (lv_room (Nat.le_of_ble_eq_true rfl)) dc_Wd_advance_9 ⟨Nat.le_of_ble_eq_true rfl, Nat.le_of_ble_eq_true rfl⟩) ?_
  refine va_put (ci := 1) (v := .int (nI (pt_ws t n gb))) (ty := .int) (C := rn_Wd) (T := fd_Wd) (N := 3) hx hb hts in_Wd ty_Wd tk_Wd nm_Wd hown hK hP hD hS 0 rfl rfl 1 (by decide) (hts _ wd_318) (fun _ h9 => h9) rfl (by decide +kernel) rfl rfl (Nat.le_of_ble_eq_true rfl) dc_Wd_advance_12 (fun H locs hP hD hS => ?_)
  have hP : va_P D kc_l [wo_c w o (pt_ws t n gb) gb, tx_c o a n, ar_n cI a N t] H := hP
  have hD : va_D A [wo_c w o (pt_ws t n gb) gb, tx_c o a n, ar_n cI a N t] := hD
  refine lv_aload_n hx hb dc_Wd_advance_15 rfl (lv_at hl 0 rfl) ?_
  refine lv_aload_n hx hb dc_Wd_advance_16 rfl (lv_at hl 0 rfl) ?_
  refine va_get (ci := 1) (v := .ref o) (C := rn_Wd) (T := fd_Wd) (N := 3) hx hb hts in_Wd hown hK hP 0 rfl rfl 0 (by decide) (hts _ wd_317) (fun _ h9 => h9) rfl dc_Wd_advance_17 ?_
  refine lv_aload_n hx hb dc_Wd_advance_20 rfl (lv_at hl 0 rfl) ?_
  refine va_get (ci := 1) (v := .int (nI (pt_ws t n gb))) (C := rn_Wd) (T := fd_Wd) (N := 3) hx hb hts in_Wd hown hK hP 0 rfl rfl 1 (by decide) (hts _ wd_318) (fun _ h9 => h9) rfl dc_Wd_advance_21 ?_
  refine kr_call1 (va_runS (As := [.ref o, .int (nI (pt_ws t n gb))]) (rest := [.ref w]) ⟨hx, hb, hml, hown, hts⟩ (ct_Wd_wordsEnd l D cI cZ _ o a N n t (pt_ws t n gb) (by omega) (by omega) (ht) (ws_le (by omega))) (cwS 2 hts (kx_gS wd_314 wd_315 wd_10 wd_316) rfl rfl rfl ⟨rfl, yd_Wd_wordsEnd⟩ ⟨Nat.le_of_ble_eq_true rfl, Nat.le_of_ble_eq_true rfl⟩) (kp_S hP hD hK hN [1, 2] rfl rfl) rfl rfl hl.1 rfl (lv_room (Nat.le_of_ble_eq_true rfl)) dc_Wd_advance_24 ⟨Nat.le_of_ble_eq_true rfl, Nat.le_of_ble_eq_true rfl⟩) ?_
  refine va_put (ci := 1) (v := .int (nI (pt_we t n (pt_ws t n gb)))) (ty := .int) (C := rn_Wd) (T := fd_Wd) (N := 3) hx hb hts in_Wd ty_Wd tk_Wd nm_Wd hown hK hP hD hS 0 rfl rfl 2 (by decide) (hts _ wd_319) (fun _ h9 => h9) rfl (by decide +kernel) rfl rfl (Nat.le_of_ble_eq_true rfl) dc_Wd_advance_27 (fun H locs hP hD hS => ?_)
  have hP : va_P D kc_l [wo_c w o (pt_ws t n gb) (pt_we t n (pt_ws t n gb)), tx_c o a n, ar_n cI a N t] H := hP
  have hD : va_D A [wo_c w o (pt_ws t n gb) (pt_we t n (pt_ws t n gb)), tx_c o a n, ar_n cI a N t] := hD
  exact kw_vret hx hb hr hlocks hP hD hS dc_Wd_advance_30 (rfl)

set_option maxHeartbeats 4000000 in
set_option maxRecDepth 100000 in
theorem ct_Wd_init (l : Launch) (D : va_G) (cI cZ : ClassId) (sz : Nat) (w : Nat) (o : Nat) (a : Nat) (N : Nat) (n : Nat) (t : Nat → Nat) (hN : N < 2 ^ 31) (hn : n ≤ N) (ht : ∀ j, t j < 256) : Met l yn_Wd_init (Cond.code yn_Wd_init bc_Wd_init 2 none :: kx_all) ({ frames := 2, cells := 0, slots := 0, locals := 43 } : Room) (kp [.ref w, .ref o] D cI cZ [(w, .inr (1, [.null, .int 0, .int 0])), tx_c o a n, ar_n cI a N t] sz) (kw_q none D kc_l [wo_c w o (pt_ws t n 0) (pt_we t n (pt_ws t n 0)), tx_c o a n, ar_n cI a N t] (va_A [(w, .inr (1, [.null, .int 0, .int 0])), tx_c o a n, ar_n cI a N t] sz)) 0 0 (va_A [(w, .inr (1, [.null, .int 0, .int 0])), tx_c o a n, ar_n cI a N t] sz) := by
  refine kx_metW (by decide) (Nat.le_of_ble_eq_true rfl) ?_
  intro p e s m below meth c ls A hx hb hr hml hts hown hlocks hin hA hP hK hD hN hl hS
  have hown : s.vm.findClass rn_Wd = some m.cls := hown
  have hl : lv_has ls 2 [(0, .ref w), (1, .ref o)] := hl
  refine lv_aload_n hx hb dc_Wd_init_0 rfl (lv_at hl 0 rfl) ?_
  refine W.objInit hx hb hown (hts _ wd_309) (hts _ wd_29) (hts _ wd_30) rfl (by rw [hml]; exact hl.1) rfl dc_Wd_init_1 (Nat.le_of_ble_eq_true rfl) (Nat.le_of_ble_eq_true rfl) ?_
  refine W.eq (g2 := F0 m 4 ls []) rfl ?_
  refine lv_aload_n hx hb dc_Wd_init_4 rfl (lv_at hl 0 rfl) ?_
  refine lv_aload_n hx hb dc_Wd_init_5 rfl (lv_at hl 1 rfl) ?_
  refine va_putF (ci := 1) (v := .ref o) (ty := .object "ProofTrimmer$Text") (C := rn_Wd) (T := fd_Wd) (N := 3) hx hb hts in_Wd ty_Wd tk_Wd nm_Wd hown hK hP hD hS 0 rfl rfl 0 (by decide) (hts _ wd_317) (fun _ h9 => h9) rfl hin rfl (by decide +kernel) rfl rfl (Nat.le_of_ble_eq_true rfl) dc_Wd_init_6 (fun H locs hP hD hS => ?_)
  have hP : va_P D kc_l [(w, .inr (1, [.ref o, .int 0, .int 0])), tx_c o a n, ar_n cI a N t] H := hP
  have hD : va_D A [(w, .inr (1, [.ref o, .int 0, .int 0])), tx_c o a n, ar_n cI a N t] := hD
  refine lv_aload_n hx hb dc_Wd_init_9 rfl (lv_at hl 0 rfl) ?_
  refine lv_aload_n hx hb dc_Wd_init_10 rfl (lv_at hl 1 rfl) ?_
  refine lv_iconst (v := nI 0) hx hb dc_Wd_init_11 (by decide +kernel) ?_
  refine kr_call1 (va_runS (As := [.ref o, .int (nI 0)]) (rest := [.ref w]) ⟨hx, hb, hml, hown, hts⟩ (ct_Wd_gapsEnd l D cI cZ _ o a N n t 0 (by omega) (by omega) (ht) (by omega)) (cwS 2 hts (kx_gS wd_310 wd_311 wd_10 wd_312) rfl rfl rfl ⟨rfl, yd_Wd_gapsEnd⟩ ⟨Nat.le_of_ble_eq_true rfl, Nat.le_of_ble_eq_true rfl⟩) (kp_S hP hD hK hN [1, 2] rfl rfl) rfl rfl hl.1 rfl (lv_room (Nat.le_of_ble_eq_true rfl)) dc_Wd_init_12 ⟨Nat.le_of_ble_eq_true rfl, Nat.le_of_ble_eq_true rfl⟩) ?_
  refine va_put (ci := 1) (v := .int (nI (pt_ws t n 0))) (ty := .int) (C := rn_Wd) (T := fd_Wd) (N := 3) hx hb hts in_Wd ty_Wd tk_Wd nm_Wd hown hK hP hD hS 0 rfl rfl 1 (by decide) (hts _ wd_318) (fun _ h9 => h9) rfl (by decide +kernel) rfl rfl (Nat.le_of_ble_eq_true rfl) dc_Wd_init_15 (fun H locs hP hD hS => ?_)
  have hP : va_P D kc_l [(w, .inr (1, [.ref o, .int (nI (pt_ws t n 0)), .int 0])), tx_c o a n, ar_n cI a N t] H := hP
  have hD : va_D A [(w, .inr (1, [.ref o, .int (nI (pt_ws t n 0)), .int 0])), tx_c o a n, ar_n cI a N t] := hD
  refine lv_aload_n hx hb dc_Wd_init_18 rfl (lv_at hl 0 rfl) ?_
  refine lv_aload_n hx hb dc_Wd_init_19 rfl (lv_at hl 1 rfl) ?_
  refine lv_aload_n hx hb dc_Wd_init_20 rfl (lv_at hl 0 rfl) ?_
  refine va_get (ci := 1) (v := .int (nI (pt_ws t n 0))) (C := rn_Wd) (T := fd_Wd) (N := 3) hx hb hts in_Wd hown hK hP 0 rfl rfl 1 (by decide) (hts _ wd_318) (fun _ h9 => h9) rfl dc_Wd_init_21 ?_
  refine kr_call1 (va_runS (As := [.ref o, .int (nI (pt_ws t n 0))]) (rest := [.ref w]) ⟨hx, hb, hml, hown, hts⟩ (ct_Wd_wordsEnd l D cI cZ _ o a N n t (pt_ws t n 0) (by omega) (by omega) (ht) (ws_le (by omega))) (cwS 2 hts (kx_gS wd_314 wd_315 wd_10 wd_316) rfl rfl rfl ⟨rfl, yd_Wd_wordsEnd⟩ ⟨Nat.le_of_ble_eq_true rfl, Nat.le_of_ble_eq_true rfl⟩) (kp_S hP hD hK hN [1, 2] rfl rfl) rfl rfl hl.1 rfl (lv_room (Nat.le_of_ble_eq_true rfl)) dc_Wd_init_24 ⟨Nat.le_of_ble_eq_true rfl, Nat.le_of_ble_eq_true rfl⟩) ?_
  refine va_put (ci := 1) (v := .int (nI (pt_we t n (pt_ws t n 0)))) (ty := .int) (C := rn_Wd) (T := fd_Wd) (N := 3) hx hb hts in_Wd ty_Wd tk_Wd nm_Wd hown hK hP hD hS 0 rfl rfl 2 (by decide) (hts _ wd_319) (fun _ h9 => h9) rfl (by decide +kernel) rfl rfl (Nat.le_of_ble_eq_true rfl) dc_Wd_init_27 (fun H locs hP hD hS => ?_)
  have hP : va_P D kc_l [wo_c w o (pt_ws t n 0) (pt_we t n (pt_ws t n 0)), tx_c o a n, ar_n cI a N t] H := hP
  have hD : va_D A [wo_c w o (pt_ws t n 0) (pt_we t n (pt_ws t n 0)), tx_c o a n, ar_n cI a N t] := hD
  exact kw_vret hx hb hr hlocks hP hD hS dc_Wd_init_30 (rfl)
