/-! the reference: by the hints alone -/
def pt_st : Bool → Nat
  | true => 2
  | false => 1
def pt_rv : Bool → Bool → Nat
  | true, b => pt_st b
  | false, _ => 0
theorem st_2 {b : Bool} (h : pt_st b = 2) : b = true := by cases b <;> first | rfl | exact absurd h (by decide)
theorem st_n2 {b : Bool} (h : ¬ pt_st b = 2) : b = false := by cases b <;> first | rfl | exact absurd rfl h
theorem st_lt (b : Bool) : pt_st b < 2 ^ 31 := by cases b <;> decide
theorem rv_lt (a b : Bool) : pt_rv a b < 2 ^ 31 := by cases a <;> cases b <;> decide
theorem rv_2 {a b : Bool} (h : pt_rv a b = 2) : a = true ∧ b = true := by cases a <;> cases b <;> first | exact ⟨rfl, rfl⟩ | exact absurd h (by decide)
theorem rv_n2 {a b : Bool} (h : ¬ pt_rv a b = 2) : ¬ (a = true ∧ b = true) := fun q => by rw [q.1, q.2] at h; exact h rfl
theorem rv_1 {a b : Bool} (h : pt_rv a b = 1) : a = true ∧ b = false := by cases a <;> cases b <;> first | exact ⟨rfl, rfl⟩ | exact absurd h (by decide)
theorem rv_0 {a b : Bool} (h1 : ¬ pt_rv a b = 1) (h2 : ¬ pt_rv a b = 2) : a = false := by cases a <;> cases b <;> first | rfl | exact absurd rfl h1 | exact absurd rfl h2

theorem dc_Mo_positive_0 : decode bc_Mo_positive 0 = .ok (.iconst 1, 1) := by decide +kernel
theorem dc_Mo_positive_1 : decode bc_Mo_positive 1 = .ok (.istore_n 2, 1) := by decide +kernel
theorem dc_Mo_positive_2 : decode bc_Mo_positive 2 = .ok (.sipush (400), 3) := by decide +kernel
theorem dc_Mo_positive_5 : decode bc_Mo_positive 5 = .ok (.iload_n 1, 1) := by decide +kernel
theorem dc_Mo_positive_6 : decode bc_Mo_positive 6 = .ok (.aload_n 0, 1) := by decide +kernel
theorem dc_Mo_positive_7 : decode bc_Mo_positive 7 = .ok (.getfield 150, 3) := by decide +kernel
theorem dc_Mo_positive_10 : decode bc_Mo_positive 10 = .ok (.isub, 1) := by decide +kernel
theorem dc_Mo_positive_11 : decode bc_Mo_positive 11 = .ok (.iconst 1, 1) := by decide +kernel
theorem dc_Mo_positive_12 : decode bc_Mo_positive 12 = .ok (.isub, 1) := by decide +kernel
theorem dc_Mo_positive_13 : decode bc_Mo_positive 13 = .ok (.imul, 1) := by decide +kernel
theorem dc_Mo_positive_14 : decode bc_Mo_positive 14 = .ok (.istore_n 3, 1) := by decide +kernel
theorem dc_Mo_positive_15 : decode bc_Mo_positive 15 = .ok (.aload_n 0, 1) := by decide +kernel
theorem dc_Mo_positive_16 : decode bc_Mo_positive 16 = .ok (.getfield 215, 3) := by decide +kernel
theorem dc_Mo_positive_19 : decode bc_Mo_positive 19 = .ok (.aload_n 0, 1) := by decide +kernel
theorem dc_Mo_positive_20 : decode bc_Mo_positive 20 = .ok (.getfield 44, 3) := by decide +kernel
theorem dc_Mo_positive_23 : decode bc_Mo_positive 23 = .ok (.iload_n 1, 1) := by decide +kernel
theorem dc_Mo_positive_24 : decode bc_Mo_positive 24 = .ok (.iaload, 1) := by decide +kernel
theorem dc_Mo_positive_25 : decode bc_Mo_positive 25 = .ok (.if_icmp .ge (127), 3) := by decide +kernel
theorem dc_Mo_positive_28 : decode bc_Mo_positive 28 = .ok (.aload_n 0, 1) := by decide +kernel
theorem dc_Mo_positive_29 : decode bc_Mo_positive 29 = .ok (.getfield 47, 3) := by decide +kernel
theorem dc_Mo_positive_32 : decode bc_Mo_positive 32 = .ok (.iload_n 3, 1) := by decide +kernel
theorem dc_Mo_positive_33 : decode bc_Mo_positive 33 = .ok (.aload_n 0, 1) := by decide +kernel
theorem dc_Mo_positive_34 : decode bc_Mo_positive 34 = .ok (.getfield 215, 3) := by decide +kernel
theorem dc_Mo_positive_37 : decode bc_Mo_positive 37 = .ok (.iadd, 1) := by decide +kernel
theorem dc_Mo_positive_38 : decode bc_Mo_positive 38 = .ok (.iaload, 1) := by decide +kernel
theorem dc_Mo_positive_39 : decode bc_Mo_positive 39 = .ok (.ifCond .le (113), 3) := by decide +kernel
theorem dc_Mo_positive_42 : decode bc_Mo_positive 42 = .ok (.aload_n 0, 1) := by decide +kernel
theorem dc_Mo_positive_43 : decode bc_Mo_positive 43 = .ok (.getfield 47, 3) := by decide +kernel
theorem dc_Mo_positive_46 : decode bc_Mo_positive 46 = .ok (.iload_n 3, 1) := by decide +kernel
theorem dc_Mo_positive_47 : decode bc_Mo_positive 47 = .ok (.aload_n 0, 1) := by decide +kernel
theorem dc_Mo_positive_48 : decode bc_Mo_positive 48 = .ok (.getfield 215, 3) := by decide +kernel
theorem dc_Mo_positive_51 : decode bc_Mo_positive 51 = .ok (.iadd, 1) := by decide +kernel
theorem dc_Mo_positive_52 : decode bc_Mo_positive 52 = .ok (.iaload, 1) := by decide +kernel
theorem dc_Mo_positive_53 : decode bc_Mo_positive 53 = .ok (.istore 4, 2) := by decide +kernel
theorem dc_Mo_positive_55 : decode bc_Mo_positive 55 = .ok (.iload_n 2, 1) := by decide +kernel
theorem dc_Mo_positive_56 : decode bc_Mo_positive 56 = .ok (.iconst 2, 1) := by decide +kernel
theorem dc_Mo_positive_57 : decode bc_Mo_positive 57 = .ok (.if_icmp .eq (50), 3) := by decide +kernel
theorem dc_Mo_positive_60 : decode bc_Mo_positive 60 = .ok (.iload 4, 2) := by decide +kernel
theorem dc_Mo_positive_62 : decode bc_Mo_positive 62 = .ok (.aload_n 0, 1) := by decide +kernel
theorem dc_Mo_positive_63 : decode bc_Mo_positive 63 = .ok (.getfield 122, 3) := by decide +kernel
theorem dc_Mo_positive_66 : decode bc_Mo_positive 66 = .ok (.if_icmp .gt (41), 3) := by decide +kernel
theorem dc_Mo_positive_69 : decode bc_Mo_positive 69 = .ok (.aload_n 0, 1) := by decide +kernel
theorem dc_Mo_positive_70 : decode bc_Mo_positive 70 = .ok (.getfield 32, 3) := by decide +kernel
theorem dc_Mo_positive_73 : decode bc_Mo_positive 73 = .ok (.iload 4, 2) := by decide +kernel
theorem dc_Mo_positive_75 : decode bc_Mo_positive 75 = .ok (.baload, 1) := by decide +kernel
theorem dc_Mo_positive_76 : decode bc_Mo_positive 76 = .ok (.ifCond .eq (31), 3) := by decide +kernel
theorem dc_Mo_positive_79 : decode bc_Mo_positive 79 = .ok (.aload_n 0, 1) := by decide +kernel
theorem dc_Mo_positive_80 : decode bc_Mo_positive 80 = .ok (.getfield 23, 3) := by decide +kernel
theorem dc_Mo_positive_83 : decode bc_Mo_positive 83 = .ok (.iload 4, 2) := by decide +kernel
theorem dc_Mo_positive_85 : decode bc_Mo_positive 85 = .ok (.iaload, 1) := by decide +kernel
theorem dc_Mo_positive_86 : decode bc_Mo_positive 86 = .ok (.aload_n 0, 1) := by decide +kernel
theorem dc_Mo_positive_87 : decode bc_Mo_positive 87 = .ok (.getfield 168, 3) := by decide +kernel
theorem dc_Mo_positive_90 : decode bc_Mo_positive 90 = .ok (.iand, 1) := by decide +kernel
theorem dc_Mo_positive_91 : decode bc_Mo_positive 91 = .ok (.ifCond .ne (16), 3) := by decide +kernel
theorem dc_Mo_positive_94 : decode bc_Mo_positive 94 = .ok (.aload_n 0, 1) := by decide +kernel
theorem dc_Mo_positive_95 : decode bc_Mo_positive 95 = .ok (.iload 4, 2) := by decide +kernel
theorem dc_Mo_positive_97 : decode bc_Mo_positive 97 = .ok (.invokevirtual 174, 3) := by decide +kernel
theorem dc_Mo_positive_100 : decode bc_Mo_positive 100 = .ok (.invokestatic 177, 3) := by decide +kernel
theorem dc_Mo_positive_103 : decode bc_Mo_positive 103 = .ok (.iconst 1, 1) := by decide +kernel
theorem dc_Mo_positive_104 : decode bc_Mo_positive 104 = .ok (.if_icmp .le (5), 3) := by decide +kernel
theorem dc_Mo_positive_107 : decode bc_Mo_positive 107 = .ok (.iconst 0, 1) := by decide +kernel
theorem dc_Mo_positive_108 : decode bc_Mo_positive 108 = .ok (.ireturn, 1) := by decide +kernel
theorem dc_Mo_positive_109 : decode bc_Mo_positive 109 = .ok (.aload_n 0, 1) := by decide +kernel
theorem dc_Mo_positive_110 : decode bc_Mo_positive 110 = .ok (.iload 4, 2) := by decide +kernel
theorem dc_Mo_positive_112 : decode bc_Mo_positive 112 = .ok (.invokevirtual 174, 3) := by decide +kernel
theorem dc_Mo_positive_115 : decode bc_Mo_positive 115 = .ok (.ifCond .ne (7), 3) := by decide +kernel
theorem dc_Mo_positive_118 : decode bc_Mo_positive 118 = .ok (.iconst 2, 1) := by decide +kernel
theorem dc_Mo_positive_119 : decode bc_Mo_positive 119 = .ok (.goto (4), 3) := by decide +kernel
theorem dc_Mo_positive_122 : decode bc_Mo_positive 122 = .ok (.iconst 1, 1) := by decide +kernel
theorem dc_Mo_positive_123 : decode bc_Mo_positive 123 = .ok (.istore_n 2, 1) := by decide +kernel
theorem dc_Mo_positive_124 : decode bc_Mo_positive 124 = .ok (.aload_n 0, 1) := by decide +kernel
theorem dc_Mo_positive_125 : decode bc_Mo_positive 125 = .ok (.aload_n 0, 1) := by decide +kernel
theorem dc_Mo_positive_126 : decode bc_Mo_positive 126 = .ok (.getfield 168, 3) := by decide +kernel
theorem dc_Mo_positive_129 : decode bc_Mo_positive 129 = .ok (.aload_n 0, 1) := by decide +kernel
theorem dc_Mo_positive_130 : decode bc_Mo_positive 130 = .ok (.iload 4, 2) := by decide +kernel
theorem dc_Mo_positive_132 : decode bc_Mo_positive 132 = .ok (.invokevirtual 174, 3) := by decide +kernel
theorem dc_Mo_positive_135 : decode bc_Mo_positive 135 = .ok (.ior, 1) := by decide +kernel
theorem dc_Mo_positive_136 : decode bc_Mo_positive 136 = .ok (.putfield 168, 3) := by decide +kernel
theorem dc_Mo_positive_139 : decode bc_Mo_positive 139 = .ok (.aload_n 0, 1) := by decide +kernel
theorem dc_Mo_positive_140 : decode bc_Mo_positive 140 = .ok (.dup, 1) := by decide +kernel
theorem dc_Mo_positive_141 : decode bc_Mo_positive 141 = .ok (.getfield 215, 3) := by decide +kernel
theorem dc_Mo_positive_144 : decode bc_Mo_positive 144 = .ok (.iconst 1, 1) := by decide +kernel
theorem dc_Mo_positive_145 : decode bc_Mo_positive 145 = .ok (.iadd, 1) := by decide +kernel
theorem dc_Mo_positive_146 : decode bc_Mo_positive 146 = .ok (.putfield 215, 3) := by decide +kernel
theorem dc_Mo_positive_149 : decode bc_Mo_positive 149 = .ok (.goto (-134), 3) := by decide +kernel
theorem dc_Mo_positive_152 : decode bc_Mo_positive 152 = .ok (.iload_n 2, 1) := by decide +kernel
theorem dc_Mo_positive_153 : decode bc_Mo_positive 153 = .ok (.ireturn, 1) := by decide +kernel
theorem dc_Mo_followsPartners_0 : decode bc_Mo_followsPartners 0 = .ok (.aload_n 0, 1) := by decide +kernel
theorem dc_Mo_followsPartners_1 : decode bc_Mo_followsPartners 1 = .ok (.getfield 29, 3) := by decide +kernel
theorem dc_Mo_followsPartners_4 : decode bc_Mo_followsPartners 4 = .ok (.bipush (8), 2) := by decide +kernel
theorem dc_Mo_followsPartners_6 : decode bc_Mo_followsPartners 6 = .ok (.iload_n 1, 1) := by decide +kernel
theorem dc_Mo_followsPartners_7 : decode bc_Mo_followsPartners 7 = .ok (.imul, 1) := by decide +kernel
theorem dc_Mo_followsPartners_8 : decode bc_Mo_followsPartners 8 = .ok (.iaload, 1) := by decide +kernel
theorem dc_Mo_followsPartners_9 : decode bc_Mo_followsPartners 9 = .ok (.invokestatic 118, 3) := by decide +kernel
theorem dc_Mo_followsPartners_12 : decode bc_Mo_followsPartners 12 = .ok (.invokestatic 171, 3) := by decide +kernel
theorem dc_Mo_followsPartners_15 : decode bc_Mo_followsPartners 15 = .ok (.istore_n 2, 1) := by decide +kernel
theorem dc_Mo_followsPartners_16 : decode bc_Mo_followsPartners 16 = .ok (.aload_n 0, 1) := by decide +kernel
theorem dc_Mo_followsPartners_17 : decode bc_Mo_followsPartners 17 = .ok (.getfield 168, 3) := by decide +kernel
theorem dc_Mo_followsPartners_20 : decode bc_Mo_followsPartners 20 = .ok (.istore_n 3, 1) := by decide +kernel
theorem dc_Mo_followsPartners_21 : decode bc_Mo_followsPartners 21 = .ok (.sipush (400), 3) := by decide +kernel
theorem dc_Mo_followsPartners_24 : decode bc_Mo_followsPartners 24 = .ok (.iload_n 1, 1) := by decide +kernel
theorem dc_Mo_followsPartners_25 : decode bc_Mo_followsPartners 25 = .ok (.aload_n 0, 1) := by decide +kernel
theorem dc_Mo_followsPartners_26 : decode bc_Mo_followsPartners 26 = .ok (.getfield 150, 3) := by decide +kernel
theorem dc_Mo_followsPartners_29 : decode bc_Mo_followsPartners 29 = .ok (.isub, 1) := by decide +kernel
theorem dc_Mo_followsPartners_30 : decode bc_Mo_followsPartners 30 = .ok (.iconst 1, 1) := by decide +kernel
theorem dc_Mo_followsPartners_31 : decode bc_Mo_followsPartners 31 = .ok (.isub, 1) := by decide +kernel
theorem dc_Mo_followsPartners_32 : decode bc_Mo_followsPartners 32 = .ok (.imul, 1) := by decide +kernel
theorem dc_Mo_followsPartners_33 : decode bc_Mo_followsPartners 33 = .ok (.istore 4, 2) := by decide +kernel
theorem dc_Mo_followsPartners_35 : decode bc_Mo_followsPartners 35 = .ok (.iconst 1, 1) := by decide +kernel
theorem dc_Mo_followsPartners_36 : decode bc_Mo_followsPartners 36 = .ok (.istore 5, 2) := by decide +kernel
theorem dc_Mo_followsPartners_38 : decode bc_Mo_followsPartners 38 = .ok (.iload 5, 2) := by decide +kernel
theorem dc_Mo_followsPartners_40 : decode bc_Mo_followsPartners 40 = .ok (.aload_n 0, 1) := by decide +kernel
theorem dc_Mo_followsPartners_41 : decode bc_Mo_followsPartners 41 = .ok (.getfield 122, 3) := by decide +kernel
theorem dc_Mo_followsPartners_44 : decode bc_Mo_followsPartners 44 = .ok (.if_icmp .gt (116), 3) := by decide +kernel
theorem dc_Mo_followsPartners_47 : decode bc_Mo_followsPartners 47 = .ok (.aload_n 0, 1) := by decide +kernel
theorem dc_Mo_followsPartners_48 : decode bc_Mo_followsPartners 48 = .ok (.getfield 32, 3) := by decide +kernel
theorem dc_Mo_followsPartners_51 : decode bc_Mo_followsPartners 51 = .ok (.iload 5, 2) := by decide +kernel
theorem dc_Mo_followsPartners_53 : decode bc_Mo_followsPartners 53 = .ok (.baload, 1) := by decide +kernel
theorem dc_Mo_followsPartners_54 : decode bc_Mo_followsPartners 54 = .ok (.ifCond .eq (100), 3) := by decide +kernel
theorem dc_Mo_followsPartners_57 : decode bc_Mo_followsPartners 57 = .ok (.aload_n 0, 1) := by decide +kernel
theorem dc_Mo_followsPartners_58 : decode bc_Mo_followsPartners 58 = .ok (.getfield 23, 3) := by decide +kernel
theorem dc_Mo_followsPartners_61 : decode bc_Mo_followsPartners 61 = .ok (.iload 5, 2) := by decide +kernel
theorem dc_Mo_followsPartners_63 : decode bc_Mo_followsPartners 63 = .ok (.iaload, 1) := by decide +kernel
theorem dc_Mo_followsPartners_64 : decode bc_Mo_followsPartners 64 = .ok (.iload_n 2, 1) := by decide +kernel
theorem dc_Mo_followsPartners_65 : decode bc_Mo_followsPartners 65 = .ok (.iand, 1) := by decide +kernel
theorem dc_Mo_followsPartners_66 : decode bc_Mo_followsPartners 66 = .ok (.ifCond .eq (88), 3) := by decide +kernel
theorem dc_Mo_followsPartners_69 : decode bc_Mo_followsPartners 69 = .ok (.aload_n 0, 1) := by decide +kernel
theorem dc_Mo_followsPartners_70 : decode bc_Mo_followsPartners 70 = .ok (.getfield 215, 3) := by decide +kernel
theorem dc_Mo_followsPartners_73 : decode bc_Mo_followsPartners 73 = .ok (.aload_n 0, 1) := by decide +kernel
theorem dc_Mo_followsPartners_74 : decode bc_Mo_followsPartners 74 = .ok (.getfield 44, 3) := by decide +kernel
theorem dc_Mo_followsPartners_77 : decode bc_Mo_followsPartners 77 = .ok (.iload_n 1, 1) := by decide +kernel
theorem dc_Mo_followsPartners_78 : decode bc_Mo_followsPartners 78 = .ok (.iaload, 1) := by decide +kernel
theorem dc_Mo_followsPartners_79 : decode bc_Mo_followsPartners 79 = .ok (.if_icmp .ge (21), 3) := by decide +kernel
theorem dc_Mo_followsPartners_82 : decode bc_Mo_followsPartners 82 = .ok (.aload_n 0, 1) := by decide +kernel
theorem dc_Mo_followsPartners_83 : decode bc_Mo_followsPartners 83 = .ok (.getfield 47, 3) := by decide +kernel
theorem dc_Mo_followsPartners_86 : decode bc_Mo_followsPartners 86 = .ok (.iload 4, 2) := by decide +kernel
theorem dc_Mo_followsPartners_88 : decode bc_Mo_followsPartners 88 = .ok (.aload_n 0, 1) := by decide +kernel
theorem dc_Mo_followsPartners_89 : decode bc_Mo_followsPartners 89 = .ok (.getfield 215, 3) := by decide +kernel
theorem dc_Mo_followsPartners_92 : decode bc_Mo_followsPartners 92 = .ok (.iadd, 1) := by decide +kernel
theorem dc_Mo_followsPartners_93 : decode bc_Mo_followsPartners 93 = .ok (.iaload, 1) := by decide +kernel
theorem dc_Mo_followsPartners_94 : decode bc_Mo_followsPartners 94 = .ok (.iload 5, 2) := by decide +kernel
theorem dc_Mo_followsPartners_96 : decode bc_Mo_followsPartners 96 = .ok (.ineg, 1) := by decide +kernel
theorem dc_Mo_followsPartners_97 : decode bc_Mo_followsPartners 97 = .ok (.if_icmp .eq (5), 3) := by decide +kernel
theorem dc_Mo_followsPartners_100 : decode bc_Mo_followsPartners 100 = .ok (.iconst 0, 1) := by decide +kernel
theorem dc_Mo_followsPartners_101 : decode bc_Mo_followsPartners 101 = .ok (.ireturn, 1) := by decide +kernel
theorem dc_Mo_followsPartners_102 : decode bc_Mo_followsPartners 102 = .ok (.aload_n 0, 1) := by decide +kernel
theorem dc_Mo_followsPartners_103 : decode bc_Mo_followsPartners 103 = .ok (.dup, 1) := by decide +kernel
theorem dc_Mo_followsPartners_104 : decode bc_Mo_followsPartners 104 = .ok (.getfield 215, 3) := by decide +kernel
theorem dc_Mo_followsPartners_107 : decode bc_Mo_followsPartners 107 = .ok (.iconst 1, 1) := by decide +kernel
theorem dc_Mo_followsPartners_108 : decode bc_Mo_followsPartners 108 = .ok (.iadd, 1) := by decide +kernel
theorem dc_Mo_followsPartners_109 : decode bc_Mo_followsPartners 109 = .ok (.putfield 215, 3) := by decide +kernel
theorem dc_Mo_followsPartners_112 : decode bc_Mo_followsPartners 112 = .ok (.aload_n 0, 1) := by decide +kernel
theorem dc_Mo_followsPartners_113 : decode bc_Mo_followsPartners 113 = .ok (.getfield 23, 3) := by decide +kernel
theorem dc_Mo_followsPartners_116 : decode bc_Mo_followsPartners 116 = .ok (.iload 5, 2) := by decide +kernel
theorem dc_Mo_followsPartners_118 : decode bc_Mo_followsPartners 118 = .ok (.iaload, 1) := by decide +kernel
theorem dc_Mo_followsPartners_119 : decode bc_Mo_followsPartners 119 = .ok (.iload_n 2, 1) := by decide +kernel
theorem dc_Mo_followsPartners_120 : decode bc_Mo_followsPartners 120 = .ok (.iconst (-1), 1) := by decide +kernel
theorem dc_Mo_followsPartners_121 : decode bc_Mo_followsPartners 121 = .ok (.ixor, 1) := by decide +kernel
theorem dc_Mo_followsPartners_122 : decode bc_Mo_followsPartners 122 = .ok (.iand, 1) := by decide +kernel
theorem dc_Mo_followsPartners_123 : decode bc_Mo_followsPartners 123 = .ok (.istore 6, 2) := by decide +kernel
theorem dc_Mo_followsPartners_125 : decode bc_Mo_followsPartners 125 = .ok (.aload_n 0, 1) := by decide +kernel
theorem dc_Mo_followsPartners_126 : decode bc_Mo_followsPartners 126 = .ok (.iload_n 3, 1) := by decide +kernel
theorem dc_Mo_followsPartners_127 : decode bc_Mo_followsPartners 127 = .ok (.iload 6, 2) := by decide +kernel
theorem dc_Mo_followsPartners_129 : decode bc_Mo_followsPartners 129 = .ok (.invokestatic 171, 3) := by decide +kernel
theorem dc_Mo_followsPartners_132 : decode bc_Mo_followsPartners 132 = .ok (.ior, 1) := by decide +kernel
theorem dc_Mo_followsPartners_133 : decode bc_Mo_followsPartners 133 = .ok (.putfield 168, 3) := by decide +kernel
theorem dc_Mo_followsPartners_136 : decode bc_Mo_followsPartners 136 = .ok (.iload 6, 2) := by decide +kernel
theorem dc_Mo_followsPartners_138 : decode bc_Mo_followsPartners 138 = .ok (.iload_n 3, 1) := by decide +kernel
theorem dc_Mo_followsPartners_139 : decode bc_Mo_followsPartners 139 = .ok (.iand, 1) := by decide +kernel
theorem dc_Mo_followsPartners_140 : decode bc_Mo_followsPartners 140 = .ok (.ifCond .ne (14), 3) := by decide +kernel
theorem dc_Mo_followsPartners_143 : decode bc_Mo_followsPartners 143 = .ok (.aload_n 0, 1) := by decide +kernel
theorem dc_Mo_followsPartners_144 : decode bc_Mo_followsPartners 144 = .ok (.iload_n 1, 1) := by decide +kernel
theorem dc_Mo_followsPartners_145 : decode bc_Mo_followsPartners 145 = .ok (.invokevirtual 218, 3) := by decide +kernel
theorem dc_Mo_followsPartners_148 : decode bc_Mo_followsPartners 148 = .ok (.iconst 2, 1) := by decide +kernel
theorem dc_Mo_followsPartners_149 : decode bc_Mo_followsPartners 149 = .ok (.if_icmp .eq (5), 3) := by decide +kernel
theorem dc_Mo_followsPartners_152 : decode bc_Mo_followsPartners 152 = .ok (.iconst 0, 1) := by decide +kernel
theorem dc_Mo_followsPartners_153 : decode bc_Mo_followsPartners 153 = .ok (.ireturn, 1) := by decide +kernel
theorem dc_Mo_followsPartners_154 : decode bc_Mo_followsPartners 154 = .ok (.iinc 5 (1), 3) := by decide +kernel
theorem dc_Mo_followsPartners_157 : decode bc_Mo_followsPartners 157 = .ok (.goto (-119), 3) := by decide +kernel
theorem dc_Mo_followsPartners_160 : decode bc_Mo_followsPartners 160 = .ok (.iconst 1, 1) := by decide +kernel
theorem dc_Mo_followsPartners_161 : decode bc_Mo_followsPartners 161 = .ok (.ireturn, 1) := by decide +kernel
theorem dc_Mo_isGood_0 : decode bc_Mo_isGood 0 = .ok (.aload_n 0, 1) := by decide +kernel
theorem dc_Mo_isGood_1 : decode bc_Mo_isGood 1 = .ok (.aload_n 0, 1) := by decide +kernel
theorem dc_Mo_isGood_2 : decode bc_Mo_isGood 2 = .ok (.getfield 23, 3) := by decide +kernel
theorem dc_Mo_isGood_5 : decode bc_Mo_isGood 5 = .ok (.iload_n 1, 1) := by decide +kernel
theorem dc_Mo_isGood_6 : decode bc_Mo_isGood 6 = .ok (.iaload, 1) := by decide +kernel
theorem dc_Mo_isGood_7 : decode bc_Mo_isGood 7 = .ok (.invokestatic 171, 3) := by decide +kernel
theorem dc_Mo_isGood_10 : decode bc_Mo_isGood 10 = .ok (.putfield 168, 3) := by decide +kernel
theorem dc_Mo_isGood_13 : decode bc_Mo_isGood 13 = .ok (.aload_n 0, 1) := by decide +kernel
theorem dc_Mo_isGood_14 : decode bc_Mo_isGood 14 = .ok (.iconst 0, 1) := by decide +kernel
theorem dc_Mo_isGood_15 : decode bc_Mo_isGood 15 = .ok (.putfield 215, 3) := by decide +kernel
theorem dc_Mo_isGood_18 : decode bc_Mo_isGood 18 = .ok (.aload_n 0, 1) := by decide +kernel
theorem dc_Mo_isGood_19 : decode bc_Mo_isGood 19 = .ok (.iload_n 1, 1) := by decide +kernel
theorem dc_Mo_isGood_20 : decode bc_Mo_isGood 20 = .ok (.invokevirtual 218, 3) := by decide +kernel
theorem dc_Mo_isGood_23 : decode bc_Mo_isGood 23 = .ok (.istore_n 2, 1) := by decide +kernel
theorem dc_Mo_isGood_24 : decode bc_Mo_isGood 24 = .ok (.iload_n 2, 1) := by decide +kernel
theorem dc_Mo_isGood_25 : decode bc_Mo_isGood 25 = .ok (.iconst 1, 1) := by decide +kernel
theorem dc_Mo_isGood_26 : decode bc_Mo_isGood 26 = .ok (.if_icmp .ne (26), 3) := by decide +kernel
theorem dc_Mo_isGood_29 : decode bc_Mo_isGood 29 = .ok (.aload_n 0, 1) := by decide +kernel
theorem dc_Mo_isGood_30 : decode bc_Mo_isGood 30 = .ok (.getfield 26, 3) := by decide +kernel
theorem dc_Mo_isGood_33 : decode bc_Mo_isGood 33 = .ok (.iload_n 1, 1) := by decide +kernel
theorem dc_Mo_isGood_34 : decode bc_Mo_isGood 34 = .ok (.iaload, 1) := by decide +kernel
theorem dc_Mo_isGood_35 : decode bc_Mo_isGood 35 = .ok (.ifCond .le (15), 3) := by decide +kernel
theorem dc_Mo_isGood_38 : decode bc_Mo_isGood 38 = .ok (.aload_n 0, 1) := by decide +kernel
theorem dc_Mo_isGood_39 : decode bc_Mo_isGood 39 = .ok (.iload_n 1, 1) := by decide +kernel
theorem dc_Mo_isGood_40 : decode bc_Mo_isGood 40 = .ok (.invokevirtual 221, 3) := by decide +kernel
theorem dc_Mo_isGood_43 : decode bc_Mo_isGood 43 = .ok (.ifCond .eq (7), 3) := by decide +kernel
theorem dc_Mo_isGood_46 : decode bc_Mo_isGood 46 = .ok (.iconst 2, 1) := by decide +kernel
theorem dc_Mo_isGood_47 : decode bc_Mo_isGood 47 = .ok (.goto (4), 3) := by decide +kernel
theorem dc_Mo_isGood_50 : decode bc_Mo_isGood 50 = .ok (.iconst 0, 1) := by decide +kernel
theorem dc_Mo_isGood_51 : decode bc_Mo_isGood 51 = .ok (.istore_n 2, 1) := by decide +kernel
theorem dc_Mo_isGood_52 : decode bc_Mo_isGood 52 = .ok (.iload_n 2, 1) := by decide +kernel
theorem dc_Mo_isGood_53 : decode bc_Mo_isGood 53 = .ok (.iconst 2, 1) := by decide +kernel
theorem dc_Mo_isGood_54 : decode bc_Mo_isGood 54 = .ok (.if_icmp .ne (20), 3) := by decide +kernel
theorem dc_Mo_isGood_57 : decode bc_Mo_isGood 57 = .ok (.aload_n 0, 1) := by decide +kernel
theorem dc_Mo_isGood_58 : decode bc_Mo_isGood 58 = .ok (.getfield 215, 3) := by decide +kernel
theorem dc_Mo_isGood_61 : decode bc_Mo_isGood 61 = .ok (.aload_n 0, 1) := by decide +kernel
theorem dc_Mo_isGood_62 : decode bc_Mo_isGood 62 = .ok (.getfield 44, 3) := by decide +kernel
theorem dc_Mo_isGood_65 : decode bc_Mo_isGood 65 = .ok (.iload_n 1, 1) := by decide +kernel
theorem dc_Mo_isGood_66 : decode bc_Mo_isGood 66 = .ok (.iaload, 1) := by decide +kernel
theorem dc_Mo_isGood_67 : decode bc_Mo_isGood 67 = .ok (.if_icmp .ne (7), 3) := by decide +kernel
theorem dc_Mo_isGood_70 : decode bc_Mo_isGood 70 = .ok (.iconst 1, 1) := by decide +kernel
theorem dc_Mo_isGood_71 : decode bc_Mo_isGood 71 = .ok (.goto (4), 3) := by decide +kernel
theorem dc_Mo_isGood_74 : decode bc_Mo_isGood 74 = .ok (.iconst 0, 1) := by decide +kernel
theorem dc_Mo_isGood_75 : decode bc_Mo_isGood 75 = .ok (.ireturn, 1) := by decide +kernel
theorem dc_Mo_verify_0 : decode bc_Mo_verify 0 = .ok (.aload_n 0, 1) := by decide +kernel
theorem dc_Mo_verify_1 : decode bc_Mo_verify 1 = .ok (.iconst 0, 1) := by decide +kernel
theorem dc_Mo_verify_2 : decode bc_Mo_verify 2 = .ok (.putfield 65, 3) := by decide +kernel
theorem dc_Mo_verify_5 : decode bc_Mo_verify 5 = .ok (.aload_n 0, 1) := by decide +kernel
theorem dc_Mo_verify_6 : decode bc_Mo_verify 6 = .ok (.getfield 140, 3) := by decide +kernel
theorem dc_Mo_verify_9 : decode bc_Mo_verify 9 = .ok (.ifCond .ne (9), 3) := by decide +kernel
theorem dc_Mo_verify_12 : decode bc_Mo_verify 12 = .ok (.aload_n 0, 1) := by decide +kernel
theorem dc_Mo_verify_13 : decode bc_Mo_verify 13 = .ok (.iconst 1, 1) := by decide +kernel
theorem dc_Mo_verify_14 : decode bc_Mo_verify 14 = .ok (.invokevirtual 131, 3) := by decide +kernel
theorem dc_Mo_verify_17 : decode bc_Mo_verify 17 = .ok (.ireturn, 1) := by decide +kernel
theorem dc_Mo_verify_18 : decode bc_Mo_verify 18 = .ok (.aload_n 0, 1) := by decide +kernel
theorem dc_Mo_verify_19 : decode bc_Mo_verify 19 = .ok (.invokevirtual 162, 3) := by decide +kernel
theorem dc_Mo_verify_22 : decode bc_Mo_verify 22 = .ok (.iconst 1, 1) := by decide +kernel
theorem dc_Mo_verify_23 : decode bc_Mo_verify 23 = .ok (.istore_n 1, 1) := by decide +kernel
theorem dc_Mo_verify_24 : decode bc_Mo_verify 24 = .ok (.iload_n 1, 1) := by decide +kernel
theorem dc_Mo_verify_25 : decode bc_Mo_verify 25 = .ok (.aload_n 0, 1) := by decide +kernel
theorem dc_Mo_verify_26 : decode bc_Mo_verify 26 = .ok (.getfield 143, 3) := by decide +kernel
theorem dc_Mo_verify_29 : decode bc_Mo_verify 29 = .ok (.if_icmp .gt (73), 3) := by decide +kernel
theorem dc_Mo_verify_32 : decode bc_Mo_verify 32 = .ok (.aload_n 0, 1) := by decide +kernel
theorem dc_Mo_verify_33 : decode bc_Mo_verify 33 = .ok (.getfield 41, 3) := by decide +kernel
theorem dc_Mo_verify_36 : decode bc_Mo_verify 36 = .ok (.iload_n 1, 1) := by decide +kernel
theorem dc_Mo_verify_37 : decode bc_Mo_verify 37 = .ok (.iaload, 1) := by decide +kernel
theorem dc_Mo_verify_38 : decode bc_Mo_verify 38 = .ok (.istore_n 2, 1) := by decide +kernel
theorem dc_Mo_verify_39 : decode bc_Mo_verify 39 = .ok (.aload_n 0, 1) := by decide +kernel
theorem dc_Mo_verify_40 : decode bc_Mo_verify 40 = .ok (.getfield 38, 3) := by decide +kernel
theorem dc_Mo_verify_43 : decode bc_Mo_verify 43 = .ok (.iload_n 1, 1) := by decide +kernel
theorem dc_Mo_verify_44 : decode bc_Mo_verify 44 = .ok (.baload, 1) := by decide +kernel
theorem dc_Mo_verify_45 : decode bc_Mo_verify 45 = .ok (.ifCond .eq (22), 3) := by decide +kernel
theorem dc_Mo_verify_48 : decode bc_Mo_verify 48 = .ok (.aload_n 0, 1) := by decide +kernel
theorem dc_Mo_verify_49 : decode bc_Mo_verify 49 = .ok (.getfield 35, 3) := by decide +kernel
theorem dc_Mo_verify_52 : decode bc_Mo_verify 52 = .ok (.iload_n 2, 1) := by decide +kernel
theorem dc_Mo_verify_53 : decode bc_Mo_verify 53 = .ok (.baload, 1) := by decide +kernel
theorem dc_Mo_verify_54 : decode bc_Mo_verify 54 = .ok (.ifCond .eq (13), 3) := by decide +kernel
theorem dc_Mo_verify_57 : decode bc_Mo_verify 57 = .ok (.aload_n 0, 1) := by decide +kernel
theorem dc_Mo_verify_58 : decode bc_Mo_verify 58 = .ok (.iload_n 2, 1) := by decide +kernel
theorem dc_Mo_verify_59 : decode bc_Mo_verify 59 = .ok (.invokevirtual 224, 3) := by decide +kernel
theorem dc_Mo_verify_62 : decode bc_Mo_verify 62 = .ok (.ifCond .ne (5), 3) := by decide +kernel
theorem dc_Mo_verify_65 : decode bc_Mo_verify 65 = .ok (.iload_n 2, 1) := by decide +kernel
theorem dc_Mo_verify_66 : decode bc_Mo_verify 66 = .ok (.ireturn, 1) := by decide +kernel
theorem dc_Mo_verify_67 : decode bc_Mo_verify 67 = .ok (.aload_n 0, 1) := by decide +kernel
theorem dc_Mo_verify_68 : decode bc_Mo_verify 68 = .ok (.getfield 32, 3) := by decide +kernel
theorem dc_Mo_verify_71 : decode bc_Mo_verify 71 = .ok (.iload_n 2, 1) := by decide +kernel
theorem dc_Mo_verify_72 : decode bc_Mo_verify 72 = .ok (.aload_n 0, 1) := by decide +kernel
theorem dc_Mo_verify_73 : decode bc_Mo_verify 73 = .ok (.getfield 38, 3) := by decide +kernel
theorem dc_Mo_verify_76 : decode bc_Mo_verify 76 = .ok (.iload_n 1, 1) := by decide +kernel
theorem dc_Mo_verify_77 : decode bc_Mo_verify 77 = .ok (.baload, 1) := by decide +kernel
theorem dc_Mo_verify_78 : decode bc_Mo_verify 78 = .ok (.ifCond .eq (16), 3) := by decide +kernel
theorem dc_Mo_verify_81 : decode bc_Mo_verify 81 = .ok (.aload_n 0, 1) := by decide +kernel
theorem dc_Mo_verify_82 : decode bc_Mo_verify 82 = .ok (.getfield 35, 3) := by decide +kernel
theorem dc_Mo_verify_85 : decode bc_Mo_verify 85 = .ok (.iload_n 2, 1) := by decide +kernel
theorem dc_Mo_verify_86 : decode bc_Mo_verify 86 = .ok (.baload, 1) := by decide +kernel
theorem dc_Mo_verify_87 : decode bc_Mo_verify 87 = .ok (.ifCond .eq (7), 3) := by decide +kernel
theorem dc_Mo_verify_90 : decode bc_Mo_verify 90 = .ok (.iconst 1, 1) := by decide +kernel
theorem dc_Mo_verify_91 : decode bc_Mo_verify 91 = .ok (.goto (4), 3) := by decide +kernel
theorem dc_Mo_verify_94 : decode bc_Mo_verify 94 = .ok (.iconst 0, 1) := by decide +kernel
theorem dc_Mo_verify_95 : decode bc_Mo_verify 95 = .ok (.bastore, 1) := by decide +kernel
theorem dc_Mo_verify_96 : decode bc_Mo_verify 96 = .ok (.iinc 1 (1), 3) := by decide +kernel
theorem dc_Mo_verify_99 : decode bc_Mo_verify 99 = .ok (.goto (-75), 3) := by decide +kernel
theorem dc_Mo_verify_102 : decode bc_Mo_verify 102 = .ok (.iconst 0, 1) := by decide +kernel
theorem dc_Mo_verify_103 : decode bc_Mo_verify 103 = .ok (.ireturn, 1) := by decide +kernel
set_option maxHeartbeats 4000000 in
set_option maxRecDepth 100000 in
theorem ct_Mo_positive (l : Launch) (D : va_G) (cI cZ : ClassId) (sz : Nat) (o : Nat) (mth : Nat) (mty : Nat) (x0 : Nat) (mat : Nat) (mfr : Nat) (mto : Nat) (mgd : Bool) (mrd : Nat) (x1 : Nat) (x2 : Nat) (x3 : Nat) (mhf : Bool) (mhp : Bool) (mcl : Bool) (mck : Bool) (mba : Nat) (mct : Nat) (x4 : Nat) (x5 : Nat) (x6 : Nat) (x7 : Nat) (x8 : Nat) (mst : Nat) (x9 : Nat) (x10 : Nat) (x11 : Nat) (x12 : Nat) (mtr : Nat) (mrs : Nat) (x13 : Nat) (x14 : Nat) (x15 : Nat) (x16 : Nat) (mwr : Nat) (x17 : Nat) (mfo : Nat) (fs : Nat → Nat) (lb : Nat → Bool) (hc : Nat → Nat) (hh : Nat → Int32) (rs : Nat → Nat) (im : Nat → Nat) (j : Nat) (lv : Nat) (n : Nat) (hv : Nat → Int32) (hct : mct ≤ 32) (h16 : ∀ j, fs j < 65536) (hlb : ∀ j, 1 ≤ j → j ≤ mct → lb j = lv.testBit j) (hj1 : mba < j) (hj2 : j ≤ 32) (hj3 : j ≤ mba + 16) (hc4 : hc j ≤ 400) (hhv : ∀ k, hv k = if k < hc j then hh (400 * (j - mba - 1) + k) else 0) (hcap : pt_cap n mtr (nb_op mtr)) (hfo : mfo ≤ 400) : Met l yn_Mo_positive (Cond.code yn_Mo_positive bc_Mo_positive 5 (some .int) :: kx_all) ({ frames := 2, cells := 0, slots := 0, locals := 41 } : Room) (kp [.ref o, .int (nI j)] D cI cZ [mo_c o mth mty x0 mat mfr mto mgd mrd x1 x2 x3 mhf mhp mcl mck mba mct x4 x5 x6 x7 x8 mst x9 x10 x11 x12 mtr mrs x13 x14 x15 x16 mwr x17 mfo, ar_n cI x4 33 fs, ar_b cZ x7 33 lb, ar_n cI x11 33 hc, ar_i cI x12 6400 hh] sz) (kw_q (some (.int (nI (pt_rv (pt_fp fs lv mct hv (hc j - mfo) mfo false n mtr (nb_op mtr) rs im).1 (pt_fp fs lv mct hv (hc j - mfo) mfo false n mtr (nb_op mtr) rs im).2.2.1)))) D kc_l [mo_c o mth mty x0 mat mfr mto mgd mrd x1 x2 x3 mhf mhp mcl mck mba mct x4 x5 x6 x7 x8 mst x9 x10 x11 x12 ((pt_fp fs lv mct hv (hc j - mfo) mfo false n mtr (nb_op mtr) rs im).2.2.2.2.1) mrs x13 x14 x15 x16 mwr x17 ((pt_fp fs lv mct hv (hc j - mfo) mfo false n mtr (nb_op mtr) rs im).2.1), ar_n cI x4 33 fs, ar_b cZ x7 33 lb, ar_n cI x11 33 hc, ar_i cI x12 6400 hh] (va_A [mo_c o mth mty x0 mat mfr mto mgd mrd x1 x2 x3 mhf mhp mcl mck mba mct x4 x5 x6 x7 x8 mst x9 x10 x11 x12 mtr mrs x13 x14 x15 x16 mwr x17 mfo, ar_n cI x4 33 fs, ar_b cZ x7 33 lb, ar_n cI x11 33 hc, ar_i cI x12 6400 hh] sz)) 0 0 (va_A [mo_c o mth mty x0 mat mfr mto mgd mrd x1 x2 x3 mhf mhp mcl mck mba mct x4 x5 x6 x7 x8 mst x9 x10 x11 x12 mtr mrs x13 x14 x15 x16 mwr x17 mfo, ar_n cI x4 33 fs, ar_b cZ x7 33 lb, ar_n cI x11 33 hc, ar_i cI x12 6400 hh] sz) := by
  refine kx_metW (by decide) (Nat.le_of_ble_eq_true rfl) ?_
  intro p e s m below meth c ls A hx hb hr hml hts hown hlocks hin hA hP hK hD hN hl hS
  have hown : s.vm.findClass rn_Mo = some m.cls := hown
  have hl : lv_has ls 5 [(0, .ref o), (1, .int (nI j))] := hl
  have hve : ∀ k, k < hc j → hh (400 * (j - mba - 1) + k) = hv k := fun k hk => by rw [hhv k, if_pos hk]
  refine lv_iconst (v := nI 1) hx hb dc_Mo_positive_0 (by decide +kernel) ?_
  refine kn_top (y := nI (pt_st false)) rfl ?_
  refine lv_istore_n (lv' := [(2, .int (nI (pt_st false))), (0, .ref o), (1, .int (nI j))]) hx hb dc_Mo_positive_1 rfl hl (by decide) rfl (fun ls hl => ?_)
  refine lv_sipush (v := nI 400) hx hb dc_Mo_positive_2 (by decide +kernel) ?_
  refine lv_iload_n hx hb dc_Mo_positive_5 rfl (lv_at hl 2 rfl) ?_
  refine lv_aload_n hx hb dc_Mo_positive_6 rfl (lv_at hl 1 rfl) ?_
  refine va_get (ci := 10) (v := .int (nI mba)) (C := rn_Mo) (T := fd_Mo) (N := 36) hx hb hts in_Mo hown hK hP 0 rfl rfl 15 (by decide) (hts _ wd_761) (fun _ h9 => h9) rfl dc_Mo_positive_7 ?_
  refine kn_isub hx hb (by omega) dc_Mo_positive_10 ?_
  refine lv_iconst (v := nI 1) hx hb dc_Mo_positive_11 (by decide +kernel) ?_
  refine kn_isub hx hb (by omega) dc_Mo_positive_12 ?_
  refine kn_imul hx hb dc_Mo_positive_13 ?_
  refine lv_istore_n (lv' := [(3, .int (nI (400 * ((j - mba) - 1)))), (2, .int (nI (pt_st false))), (0, .ref o), (1, .int (nI j))]) hx hb dc_Mo_positive_14 rfl hl (by decide) rfl (fun ls hl => ?_)
  have lp_15 : ∀ (K : Nat) (nk : Nat) (ck1 : Bool) (n1 : Nat) (t1 : Nat) (f1 : Nat) (rs1 : Nat → Nat) (im1 : Nat → Nat) (H : Heap) (locs : List Loc) (ls : Array Slot), hc j - nk < K → va_P D kc_l [mo_c o mth mty x0 mat mfr mto mgd mrd x1 x2 x3 mhf mhp mcl mck mba mct x4 x5 x6 x7 x8 mst x9 x10 x11 x12 t1 mrs x13 x14 x15 x16 mwr x17 nk, ar_n cI x4 33 fs, ar_b cZ x7 33 lb, ar_n cI x11 33 hc, ar_i cI x12 6400 hh] H → va_D A [mo_c o mth mty x0 mat mfr mto mgd mrd x1 x2 x3 mhf mhp mcl mck mba mct x4 x5 x6 x7 x8 mst x9 x10 x11 x12 t1 mrs x13 x14 x15 x16 mwr x17 nk, ar_n cI x4 33 fs, ar_b cZ x7 33 lb, ar_n cI x11 33 hc, ar_i cI x12 6400 hh] → va_S A s.heap H locs → lv_has ls 5 [(3, .int (nI (400 * (j - mba - 1)))), (2, .int (nI (pt_st ck1))), (0, .ref o), (1, .int (nI j))] → (pt_fp fs lv mct hv (hc j - nk) nk ck1 n1 t1 f1 rs1 im1 = pt_fp fs lv mct hv (hc j - mfo) mfo false n mtr (nb_op mtr) rs im) → (mfo ≤ nk ∧ nk ≤ 400) → (pt_cap n1 t1 f1) → W p l e ({ frames := 2, cells := 0, slots := 0, locals := 41 } : Room) s m ([.ref o, .int (nI j)] : List Value).toArray below meth c H locs 0 0 (MQ below (kw_q (some (.int (nI (pt_rv (pt_fp fs lv mct hv (hc j - mfo) mfo false n mtr (nb_op mtr) rs im).1 (pt_fp fs lv mct hv (hc j - mfo) mfo false n mtr (nb_op mtr) rs im).2.2.1)))) D kc_l [mo_c o mth mty x0 mat mfr mto mgd mrd x1 x2 x3 mhf mhp mcl mck mba mct x4 x5 x6 x7 x8 mst x9 x10 x11 x12 ((pt_fp fs lv mct hv (hc j - mfo) mfo false n mtr (nb_op mtr) rs im).2.2.2.2.1) mrs x13 x14 x15 x16 mwr x17 ((pt_fp fs lv mct hv (hc j - mfo) mfo false n mtr (nb_op mtr) rs im).2.1), ar_n cI x4 33 fs, ar_b cZ x7 33 lb, ar_n cI x11 33 hc, ar_i cI x12 6400 hh] A) ([.ref o, .int (nI j)] : List Value).toArray s 0 0 A) (F0 m 15 ls []) := by
    intro K
    induction K with
    | zero =>
      intro nk ck1 n1 t1 f1 rs1 im1 H locs ls hk
      exact absurd hk (Nat.not_lt_zero _)
    | succ K ih_15 =>
      intro nk ck1 n1 t1 f1 rs1 im1 H locs ls hk hP hD hS hl h1 h2 h3
      refine lv_aload_n hx hb dc_Mo_positive_15 rfl (lv_at hl 2 rfl) ?_
      refine va_get (ci := 10) (v := .int (nI nk)) (C := rn_Mo) (T := fd_Mo) (N := 36) hx hb hts in_Mo hown hK hP 0 rfl rfl 35 (by decide) (hts _ wd_781) (fun _ h9 => h9) rfl dc_Mo_positive_16 ?_
      refine lv_aload_n hx hb dc_Mo_positive_19 rfl (lv_at hl 2 rfl) ?_
      refine va_get (ci := 10) (v := .ref x11) (C := rn_Mo) (T := fd_Mo) (N := 36) hx hb hts in_Mo hown hK hP 0 rfl rfl 25 (by decide) (hts _ wd_771) (fun _ h9 => h9) rfl dc_Mo_positive_20 ?_
      refine lv_iload_n hx hb dc_Mo_positive_23 rfl (lv_at hl 3 rfl) ?_
      refine ka_nald (t := hc) hx hb hK hP 3 0 rfl rfl (j := j) (by omega) (by omega) dc_Mo_positive_24 ?_
      refine kn_icmp_ge hx hb (by omega) (by omega) dc_Mo_positive_25 rfl (fun hc25 => ?_) (fun hc25 => ?_)
      · refine lv_iload_n hx hb dc_Mo_positive_152 rfl (lv_at hl 1 rfl) ?_
        exact kw_iret hx hb hr hlocks hP hD hS dc_Mo_positive_153 (by rw [← h1, fp_en (by omega)]; rfl) (by rw [← h1, fp_en (by omega)])
      · refine lv_aload_n hx hb dc_Mo_positive_28 rfl (lv_at hl 2 rfl) ?_
        refine va_get (ci := 10) (v := .ref x12) (C := rn_Mo) (T := fd_Mo) (N := 36) hx hb hts in_Mo hown hK hP 0 rfl rfl 26 (by decide) (hts _ wd_772) (fun _ h9 => h9) rfl dc_Mo_positive_29 ?_
        refine lv_iload_n hx hb dc_Mo_positive_32 rfl (lv_at hl 0 rfl) ?_
        refine lv_aload_n hx hb dc_Mo_positive_33 rfl (lv_at hl 2 rfl) ?_
        refine va_get (ci := 10) (v := .int (nI nk)) (C := rn_Mo) (T := fd_Mo) (N := 36) hx hb hts in_Mo hown hK hP 0 rfl rfl 35 (by decide) (hts _ wd_781) (fun _ h9 => h9) rfl dc_Mo_positive_34 ?_
        refine kn_iadd hx hb dc_Mo_positive_37 ?_
        refine ka_iald (f := hh) hx hb hK hP 4 0 rfl rfl (j := (400 * (j - mba - 1)) + nk) (by omega) (by omega) dc_Mo_positive_38 ?_
        refine kn_top (y := hv nk) (hve nk (by omega)) ?_
        refine lv_if_le hx hb dc_Mo_positive_39 rfl (fun hc39 => ?_) (fun hc39 => ?_)
        · refine lv_iload_n hx hb dc_Mo_positive_152 rfl (lv_at hl 1 rfl) ?_
          exact kw_iret hx hb hr hlocks hP hD hS dc_Mo_positive_153 (by rw [← h1, fp_neg (by omega) hc39]; rfl) (by rw [← h1, fp_neg (by omega) hc39])
        · obtain ⟨h, hh31, hhe⟩ := nI_of (x := hv nk) (fun q => hc39 (Int32.le_of_lt q))
          have hcl : (hv nk).toNatClampNeg = h := by rw [hhe, nI_clamp hh31]
          have hh1 : 1 ≤ h := by
            rcases Nat.eq_zero_or_pos h with q | q
            · exfalso; rw [hhe, q] at hc39; exact hc39 (by decide +kernel)
            · exact q
          refine lv_aload_n hx hb dc_Mo_positive_42 rfl (lv_at hl 2 rfl) ?_
          refine va_get (ci := 10) (v := .ref x12) (C := rn_Mo) (T := fd_Mo) (N := 36) hx hb hts in_Mo hown hK hP 0 rfl rfl 26 (by decide) (hts _ wd_772) (fun _ h9 => h9) rfl dc_Mo_positive_43 ?_
          refine lv_iload_n hx hb dc_Mo_positive_46 rfl (lv_at hl 0 rfl) ?_
          refine lv_aload_n hx hb dc_Mo_positive_47 rfl (lv_at hl 2 rfl) ?_
          refine va_get (ci := 10) (v := .int (nI nk)) (C := rn_Mo) (T := fd_Mo) (N := 36) hx hb hts in_Mo hown hK hP 0 rfl rfl 35 (by decide) (hts _ wd_781) (fun _ h9 => h9) rfl dc_Mo_positive_48 ?_
          refine kn_iadd hx hb dc_Mo_positive_51 ?_
          refine ka_iald (f := hh) hx hb hK hP 4 0 rfl rfl (j := (400 * (j - mba - 1)) + nk) (by omega) (by omega) dc_Mo_positive_52 ?_
          refine kn_top (y := nI h) ((hve nk (by omega)).trans hhe) ?_
          refine lv_istore (lv' := [(4, .int (nI h)), (3, .int (nI (400 * (j - mba - 1)))), (2, .int (nI (pt_st ck1))), (0, .ref o), (1, .int (nI j))]) hx hb dc_Mo_positive_53 hl (by decide) rfl (fun ls hl => ?_)
          refine lv_iload_n hx hb dc_Mo_positive_55 rfl (lv_at hl 2 rfl) ?_
          refine lv_iconst (v := nI 2) hx hb dc_Mo_positive_56 (by decide +kernel) ?_
          refine kn_icmp_eq hx hb (st_lt _) (by omega) dc_Mo_positive_57 rfl (fun hc57 => ?_) (fun hc57 => ?_)
          · have hc57 := st_2 hc57
            refine lv_iconst (v := nI 0) hx hb dc_Mo_positive_107 (by decide +kernel) ?_
            exact kw_iret hx hb hr hlocks hP hD hS dc_Mo_positive_108 (by rw [← h1, fp_bad (by omega) hc39 hcl (Or.inl hc57)]; rfl) (by rw [← h1, fp_bad (by omega) hc39 hcl (Or.inl hc57)])
          · have hc57 := st_n2 hc57
            refine lv_iload hx hb dc_Mo_positive_60 (lv_at hl 0 rfl) ?_
            refine lv_aload_n hx hb dc_Mo_positive_62 rfl (lv_at hl 3 rfl) ?_
            refine va_get (ci := 10) (v := .int (nI mct)) (C := rn_Mo) (T := fd_Mo) (N := 36) hx hb hts in_Mo hown hK hP 0 rfl rfl 16 (by decide) (hts _ wd_762) (fun _ h9 => h9) rfl dc_Mo_positive_63 ?_
            refine kn_icmp_gt hx hb (by omega) (by omega) dc_Mo_positive_66 rfl (fun hc66 => ?_) (fun hc66 => ?_)
            · refine lv_iconst (v := nI 0) hx hb dc_Mo_positive_107 (by decide +kernel) ?_
              exact kw_iret hx hb hr hlocks hP hD hS dc_Mo_positive_108 (by rw [← h1, fp_bad (by omega) hc39 hcl (Or.inr (Or.inl (by omega)))]; rfl) (by rw [← h1, fp_bad (by omega) hc39 hcl (Or.inr (Or.inl (by omega)))])
            · refine lv_aload_n hx hb dc_Mo_positive_69 rfl (lv_at hl 3 rfl) ?_
              refine va_get (ci := 10) (v := .ref x7) (C := rn_Mo) (T := fd_Mo) (N := 36) hx hb hts in_Mo hown hK hP 0 rfl rfl 20 (by decide) (hts _ wd_766) (fun _ h9 => h9) rfl dc_Mo_positive_70 ?_
              refine lv_iload hx hb dc_Mo_positive_73 (lv_at hl 0 rfl) ?_
              refine ka_bald (t := lb) hx hb hK hP 2 1 rfl rfl (j := h) (by omega) (by omega) dc_Mo_positive_75 ?_
              refine kb_if_eq hx hb dc_Mo_positive_76 rfl (fun hc76 => ?_) (fun hc76 => ?_)
              · have hlh : lv.testBit h = false := by rw [← hlb h hh1 (by omega)]; exact hc76
                refine lv_iconst (v := nI 0) hx hb dc_Mo_positive_107 (by decide +kernel) ?_
                exact kw_iret hx hb hr hlocks hP hD hS dc_Mo_positive_108 (by rw [← h1, fp_bad (by omega) hc39 hcl (Or.inr (Or.inr (Or.inl hlh)))]; rfl) (by rw [← h1, fp_bad (by omega) hc39 hcl (Or.inr (Or.inr (Or.inl hlh)))])
              · have hlh : lv.testBit h = true := by rw [← hlb h hh1 (by omega)]; exact hc76
                refine lv_aload_n hx hb dc_Mo_positive_79 rfl (lv_at hl 3 rfl) ?_
                refine va_get (ci := 10) (v := .ref x4) (C := rn_Mo) (T := fd_Mo) (N := 36) hx hb hts in_Mo hown hK hP 0 rfl rfl 17 (by decide) (hts _ wd_763) (fun _ h9 => h9) rfl dc_Mo_positive_80 ?_
                refine lv_iload hx hb dc_Mo_positive_83 (lv_at hl 0 rfl) ?_
                refine ka_nald (t := fs) hx hb hK hP 1 0 rfl rfl (j := h) (by omega) (by omega) dc_Mo_positive_85 ?_
                refine lv_aload_n hx hb dc_Mo_positive_86 rfl (lv_at hl 3 rfl) ?_
                refine va_get (ci := 10) (v := .int (nI t1)) (C := rn_Mo) (T := fd_Mo) (N := 36) hx hb hts in_Mo hown hK hP 0 rfl rfl 27 (by decide) (hts _ wd_773) (fun _ h9 => h9) rfl dc_Mo_positive_87 ?_
                refine kn_iand hx hb dc_Mo_positive_90 ?_
                refine kn_if_ne hx hb (Nat.lt_of_le_of_lt Nat.and_le_left (Nat.lt_trans (h16 h) (by decide))) dc_Mo_positive_91 rfl (fun hc91 => ?_) (fun hc91 => ?_)
                · have hrd : pt_rdy (fs h) t1 f1 = false := by rw [h3.2.1, rdy_ref (h16 h), decide_eq_false hc91, Bool.false_and]
                  refine lv_iconst (v := nI 0) hx hb dc_Mo_positive_107 (by decide +kernel) ?_
                  exact kw_iret hx hb hr hlocks hP hD hS dc_Mo_positive_108 (by rw [← h1, fp_bad (by omega) hc39 hcl (Or.inr (Or.inr (Or.inr hrd)))]; rfl) (by rw [← h1, fp_bad (by omega) hc39 hcl (Or.inr (Or.inr (Or.inr hrd)))])
                · refine lv_aload_n hx hb dc_Mo_positive_94 rfl (lv_at hl 3 rfl) ?_
                  refine lv_iload hx hb dc_Mo_positive_95 (lv_at hl 0 rfl) ?_
                  refine kr_call1 (va_runV (As := [.int (nI h)]) (rest := []) ⟨hx, hb, hml, hown, hts⟩ (ct_Mo_open l D cI cZ _ o mth mty x0 mat mfr mto mgd mrd x1 x2 x3 mhf mhp mcl mck mba mct x4 x5 x6 x7 x8 mst x9 x10 x11 x12 t1 mrs x13 x14 x15 x16 mwr x17 nk fs h (h3.1) (by omega)) (cwV 1 hts (kx_gV wd_957 wd_959 (kx_sel (q := (yn_Mo_open, 36)) (List.mem_append_right _ (List.mem_append_left _ (List.mem_of_getElem? (i := 13) rfl)))) wd_9 wd_960) rfl rfl rfl ⟨rfl, yd_Mo_open⟩ ⟨Nat.le_of_ble_eq_true rfl, Nat.le_of_ble_eq_true rfl⟩) (kp_V (q0 := 0) (ci := 10) hP hD hK hN [0, 1] rfl rfl rfl rfl rfl) rfl rfl hl.1 rfl (lv_room (Nat.le_of_ble_eq_true rfl)) dc_Mo_positive_97 ⟨Nat.le_of_ble_eq_true rfl, Nat.le_of_ble_eq_true rfl⟩) ?_
                  refine kr_call1 (va_runS (As := [.int (nI (nb_d (fs h) (t1 ||| nb_op t1)))]) (rest := []) ⟨hx, hb, hml, hown, hts⟩ (ct_Mo_bits l D cI cZ _ (nb_d (fs h) (t1 ||| nb_op t1)) (nb_d_lt (n := 16) (h16 h))) (cwS 1 hts (kx_gS wd_961 wd_962 wd_9 wd_963) rfl rfl rfl ⟨rfl, yd_Mo_bits⟩ ⟨Nat.le_of_ble_eq_true rfl, Nat.le_of_ble_eq_true rfl⟩) (kp_S hP hD hK hN [] rfl rfl) rfl rfl hl.1 rfl (lv_room (Nat.le_of_ble_eq_true rfl)) dc_Mo_positive_100 ⟨Nat.le_of_ble_eq_true rfl, Nat.le_of_ble_eq_true rfl⟩) ?_
                  refine lv_iconst (v := nI 1) hx hb dc_Mo_positive_103 (by decide +kernel) ?_
                  refine kn_icmp_le hx hb (Nat.lt_of_le_of_lt (bits_le _ 16) (by decide)) (by omega) dc_Mo_positive_104 rfl (fun hc104 => ?_) (fun hc104 => ?_)
                  · have hrd : pt_rdy (fs h) t1 f1 = true := by rw [h3.2.1, rdy_ref (h16 h), decide_eq_true hc91, decide_eq_true (show pt_bits (nb_d (fs h) (t1 ||| nb_op t1)) 16 < 2 by omega), Bool.and_true]
                    have hde : nb_d (fs h) (t1 ||| nb_op t1) = nb_d (fs h) f1 := by rw [d_or hc91, ← h3.2.1]
                    have hnb : ¬ (ck1 = true ∨ ¬ h ≤ mct ∨ lv.testBit h = false ∨ pt_rdy (fs h) t1 f1 = false) := fun q => by
                      rcases q with q | q | q | q
                      · rw [hc57] at q; exact absurd q (by decide)
                      · omega
                      · rw [hlh] at q; exact absurd q (by decide)
                      · rw [hrd] at q; exact absurd q (by decide)
                    refine lv_aload_n hx hb dc_Mo_positive_109 rfl (lv_at hl 3 rfl) ?_
                    refine lv_iload hx hb dc_Mo_positive_110 (lv_at hl 0 rfl) ?_
                    refine kr_call1 (va_runV (As := [.int (nI h)]) (rest := []) ⟨hx, hb, hml, hown, hts⟩ (ct_Mo_open l D cI cZ _ o mth mty x0 mat mfr mto mgd mrd x1 x2 x3 mhf mhp mcl mck mba mct x4 x5 x6 x7 x8 mst x9 x10 x11 x12 t1 mrs x13 x14 x15 x16 mwr x17 nk fs h (h3.1) (by omega)) (cwV 1 hts (kx_gV wd_957 wd_959 (kx_sel (q := (yn_Mo_open, 36)) (List.mem_append_right _ (List.mem_append_left _ (List.mem_of_getElem? (i := 13) rfl)))) wd_9 wd_960) rfl rfl rfl ⟨rfl, yd_Mo_open⟩ ⟨Nat.le_of_ble_eq_true rfl, Nat.le_of_ble_eq_true rfl⟩) (kp_V (q0 := 0) (ci := 10) hP hD hK hN [0, 1] rfl rfl rfl rfl rfl) rfl rfl hl.1 rfl (lv_room (Nat.le_of_ble_eq_true rfl)) dc_Mo_positive_112 ⟨Nat.le_of_ble_eq_true rfl, Nat.le_of_ble_eq_true rfl⟩) ?_
                    refine kn_top (y := nI (nb_d (fs h) f1)) (congrArg nI hde) ?_
                    refine kn_if_ne hx hb (Nat.lt_trans (nb_d_lt (n := 16) (h16 h)) (by decide)) dc_Mo_positive_115 rfl (fun hc115 => ?_) (fun hc115 => ?_)
                    · obtain ⟨hn8, hy16, hcap2⟩ := cap_step h3 (h16 h) hrd hc115
                      refine lv_iconst (v := nI 1) hx hb dc_Mo_positive_122 (by decide +kernel) ?_
                      refine kn_top (y := nI (pt_st false)) rfl ?_
                      refine lv_istore_n (lv' := [(2, .int (nI (pt_st false))), (4, .int (nI h)), (3, .int (nI (400 * (j - mba - 1)))), (0, .ref o), (1, .int (nI j))]) hx hb dc_Mo_positive_123 rfl hl (by decide) rfl (fun ls hl => ?_)
                      refine lv_aload_n hx hb dc_Mo_positive_124 rfl (lv_at hl 3 rfl) ?_
                      refine lv_aload_n hx hb dc_Mo_positive_125 rfl (lv_at hl 3 rfl) ?_
                      refine va_get (ci := 10) (v := .int (nI t1)) (C := rn_Mo) (T := fd_Mo) (N := 36) hx hb hts in_Mo hown hK hP 0 rfl rfl 27 (by decide) (hts _ wd_773) (fun _ h9 => h9) rfl dc_Mo_positive_126 ?_
                      refine lv_aload_n hx hb dc_Mo_positive_129 rfl (lv_at hl 3 rfl) ?_
                      refine lv_iload hx hb dc_Mo_positive_130 (lv_at hl 1 rfl) ?_
                      refine kr_call1 (va_runV (As := [.int (nI h)]) (rest := [.int (nI t1), .ref o]) ⟨hx, hb, hml, hown, hts⟩ (ct_Mo_open l D cI cZ _ o mth mty x0 mat mfr mto mgd mrd x1 x2 x3 mhf mhp mcl mck mba mct x4 x5 x6 x7 x8 mst x9 x10 x11 x12 t1 mrs x13 x14 x15 x16 mwr x17 nk fs h (h3.1) (by omega)) (cwV 1 hts (kx_gV wd_957 wd_959 (kx_sel (q := (yn_Mo_open, 36)) (List.mem_append_right _ (List.mem_append_left _ (List.mem_of_getElem? (i := 13) rfl)))) wd_9 wd_960) rfl rfl rfl ⟨rfl, yd_Mo_open⟩ ⟨Nat.le_of_ble_eq_true rfl, Nat.le_of_ble_eq_true rfl⟩) (kp_V (q0 := 0) (ci := 10) hP hD hK hN [0, 1] rfl rfl rfl rfl rfl) rfl rfl hl.1 rfl (lv_room (Nat.le_of_ble_eq_true rfl)) dc_Mo_positive_132 ⟨Nat.le_of_ble_eq_true rfl, Nat.le_of_ble_eq_true rfl⟩) ?_
                      refine kn_top (y := nI (nb_d (fs h) f1)) (congrArg nI hde) ?_
                      refine kn_ior hx hb dc_Mo_positive_135 ?_
                      refine kn_top (y := nI (t1 ||| nb_d (fs h) f1)) rfl ?_
                      refine va_put (ci := 10) (v := .int (nI (t1 ||| nb_d (fs h) f1))) (ty := .int) (C := rn_Mo) (T := fd_Mo) (N := 36) hx hb hts in_Mo ty_Mo tk_Mo nm_Mo hown hK hP hD hS 0 rfl rfl 27 (by decide) (hts _ wd_773) (fun _ h9 => h9) rfl (by decide +kernel) rfl rfl (Nat.le_of_ble_eq_true rfl) dc_Mo_positive_136 (fun H locs hP hD hS => ?_)
                      have hP : va_P D kc_l [mo_c o mth mty x0 mat mfr mto mgd mrd x1 x2 x3 mhf mhp mcl mck mba mct x4 x5 x6 x7 x8 mst x9 x10 x11 x12 (t1 ||| nb_d (fs h) f1) mrs x13 x14 x15 x16 mwr x17 nk, ar_n cI x4 33 fs, ar_b cZ x7 33 lb, ar_n cI x11 33 hc, ar_i cI x12 6400 hh] H := hP
                      have hD : va_D A [mo_c o mth mty x0 mat mfr mto mgd mrd x1 x2 x3 mhf mhp mcl mck mba mct x4 x5 x6 x7 x8 mst x9 x10 x11 x12 (t1 ||| nb_d (fs h) f1) mrs x13 x14 x15 x16 mwr x17 nk, ar_n cI x4 33 fs, ar_b cZ x7 33 lb, ar_n cI x11 33 hc, ar_i cI x12 6400 hh] := hD
                      refine lv_aload_n hx hb dc_Mo_positive_139 rfl (lv_at hl 3 rfl) ?_
                      refine lv_dup hx hb dc_Mo_positive_140 rfl ?_
                      refine va_get (ci := 10) (v := .int (nI nk)) (C := rn_Mo) (T := fd_Mo) (N := 36) hx hb hts in_Mo hown hK hP 0 rfl rfl 35 (by decide) (hts _ wd_781) (fun _ h9 => h9) rfl dc_Mo_positive_141 ?_
                      refine lv_iconst (v := nI 1) hx hb dc_Mo_positive_144 (by decide +kernel) ?_
                      refine kn_iadd hx hb dc_Mo_positive_145 ?_
                      refine va_put (ci := 10) (v := .int (nI (nk + 1))) (ty := .int) (C := rn_Mo) (T := fd_Mo) (N := 36) hx hb hts in_Mo ty_Mo tk_Mo nm_Mo hown hK hP hD hS 0 rfl rfl 35 (by decide) (hts _ wd_781) (fun _ h9 => h9) rfl (by decide +kernel) rfl rfl (Nat.le_of_ble_eq_true rfl) dc_Mo_positive_146 (fun H locs hP hD hS => ?_)
                      have hP : va_P D kc_l [mo_c o mth mty x0 mat mfr mto mgd mrd x1 x2 x3 mhf mhp mcl mck mba mct x4 x5 x6 x7 x8 mst x9 x10 x11 x12 (t1 ||| nb_d (fs h) f1) mrs x13 x14 x15 x16 mwr x17 (nk + 1), ar_n cI x4 33 fs, ar_b cZ x7 33 lb, ar_n cI x11 33 hc, ar_i cI x12 6400 hh] H := hP
                      have hD : va_D A [mo_c o mth mty x0 mat mfr mto mgd mrd x1 x2 x3 mhf mhp mcl mck mba mct x4 x5 x6 x7 x8 mst x9 x10 x11 x12 (t1 ||| nb_d (fs h) f1) mrs x13 x14 x15 x16 mwr x17 (nk + 1), ar_n cI x4 33 fs, ar_b cZ x7 33 lb, ar_n cI x11 33 hc, ar_i cI x12 6400 hh] := hD
                      refine lv_goto hx hb dc_Mo_positive_149 rfl ?_
                      have hl := lv_sub (l' := [(3, .int (nI (400 * (j - mba - 1)))), (2, .int (nI (pt_st false))), (0, .ref o), (1, .int (nI j))]) hl [2, 0, 3, 4] rfl
                      exact ih_15 _ _ _ _ _ _ _ _ _ _ (by omega) hP hD hS hl (by rw [← h1]; exact (fp_go (by omega) hc39 hcl hnb hc115).symm) (⟨by omega, by omega⟩) (hcap2)
                    · refine lv_iconst (v := nI 2) hx hb dc_Mo_positive_118 (by decide +kernel) ?_
                      refine kn_top (y := nI (pt_st true)) rfl ?_
                      refine lv_goto hx hb dc_Mo_positive_119 rfl ?_
                      refine lv_istore_n (lv' := [(2, .int (nI (pt_st true))), (4, .int (nI h)), (3, .int (nI (400 * (j - mba - 1)))), (0, .ref o), (1, .int (nI j))]) hx hb dc_Mo_positive_123 rfl hl (by decide) rfl (fun ls hl => ?_)
                      refine lv_aload_n hx hb dc_Mo_positive_124 rfl (lv_at hl 3 rfl) ?_
                      refine lv_aload_n hx hb dc_Mo_positive_125 rfl (lv_at hl 3 rfl) ?_
                      refine va_get (ci := 10) (v := .int (nI t1)) (C := rn_Mo) (T := fd_Mo) (N := 36) hx hb hts in_Mo hown hK hP 0 rfl rfl 27 (by decide) (hts _ wd_773) (fun _ h9 => h9) rfl dc_Mo_positive_126 ?_
                      refine lv_aload_n hx hb dc_Mo_positive_129 rfl (lv_at hl 3 rfl) ?_
                      refine lv_iload hx hb dc_Mo_positive_130 (lv_at hl 1 rfl) ?_
                      refine kr_call1 (va_runV (As := [.int (nI h)]) (rest := [.int (nI t1), .ref o]) ⟨hx, hb, hml, hown, hts⟩ (ct_Mo_open l D cI cZ _ o mth mty x0 mat mfr mto mgd mrd x1 x2 x3 mhf mhp mcl mck mba mct x4 x5 x6 x7 x8 mst x9 x10 x11 x12 t1 mrs x13 x14 x15 x16 mwr x17 nk fs h (h3.1) (by omega)) (cwV 1 hts (kx_gV wd_957 wd_959 (kx_sel (q := (yn_Mo_open, 36)) (List.mem_append_right _ (List.mem_append_left _ (List.mem_of_getElem? (i := 13) rfl)))) wd_9 wd_960) rfl rfl rfl ⟨rfl, yd_Mo_open⟩ ⟨Nat.le_of_ble_eq_true rfl, Nat.le_of_ble_eq_true rfl⟩) (kp_V (q0 := 0) (ci := 10) hP hD hK hN [0, 1] rfl rfl rfl rfl rfl) rfl rfl hl.1 rfl (lv_room (Nat.le_of_ble_eq_true rfl)) dc_Mo_positive_132 ⟨Nat.le_of_ble_eq_true rfl, Nat.le_of_ble_eq_true rfl⟩) ?_
                      refine kn_top (y := nI (nb_d (fs h) f1)) (congrArg nI hde) ?_
                      refine kn_ior hx hb dc_Mo_positive_135 ?_
                      refine kn_top (y := nI t1) (congrArg nI (by rw [hc115, Nat.or_zero])) ?_
                      refine va_put (ci := 10) (v := .int (nI t1)) (ty := .int) (C := rn_Mo) (T := fd_Mo) (N := 36) hx hb hts in_Mo ty_Mo tk_Mo nm_Mo hown hK hP hD hS 0 rfl rfl 27 (by decide) (hts _ wd_773) (fun _ h9 => h9) rfl (by decide +kernel) rfl rfl (Nat.le_of_ble_eq_true rfl) dc_Mo_positive_136 (fun H locs hP hD hS => ?_)
                      have hP : va_P D kc_l [mo_c o mth mty x0 mat mfr mto mgd mrd x1 x2 x3 mhf mhp mcl mck mba mct x4 x5 x6 x7 x8 mst x9 x10 x11 x12 t1 mrs x13 x14 x15 x16 mwr x17 nk, ar_n cI x4 33 fs, ar_b cZ x7 33 lb, ar_n cI x11 33 hc, ar_i cI x12 6400 hh] H := hP
                      have hD : va_D A [mo_c o mth mty x0 mat mfr mto mgd mrd x1 x2 x3 mhf mhp mcl mck mba mct x4 x5 x6 x7 x8 mst x9 x10 x11 x12 t1 mrs x13 x14 x15 x16 mwr x17 nk, ar_n cI x4 33 fs, ar_b cZ x7 33 lb, ar_n cI x11 33 hc, ar_i cI x12 6400 hh] := hD
                      refine lv_aload_n hx hb dc_Mo_positive_139 rfl (lv_at hl 3 rfl) ?_
                      refine lv_dup hx hb dc_Mo_positive_140 rfl ?_
                      refine va_get (ci := 10) (v := .int (nI nk)) (C := rn_Mo) (T := fd_Mo) (N := 36) hx hb hts in_Mo hown hK hP 0 rfl rfl 35 (by decide) (hts _ wd_781) (fun _ h9 => h9) rfl dc_Mo_positive_141 ?_
                      refine lv_iconst (v := nI 1) hx hb dc_Mo_positive_144 (by decide +kernel) ?_
                      refine kn_iadd hx hb dc_Mo_positive_145 ?_
                      refine va_put (ci := 10) (v := .int (nI (nk + 1))) (ty := .int) (C := rn_Mo) (T := fd_Mo) (N := 36) hx hb hts in_Mo ty_Mo tk_Mo nm_Mo hown hK hP hD hS 0 rfl rfl 35 (by decide) (hts _ wd_781) (fun _ h9 => h9) rfl (by decide +kernel) rfl rfl (Nat.le_of_ble_eq_true rfl) dc_Mo_positive_146 (fun H locs hP hD hS => ?_)
                      have hP : va_P D kc_l [mo_c o mth mty x0 mat mfr mto mgd mrd x1 x2 x3 mhf mhp mcl mck mba mct x4 x5 x6 x7 x8 mst x9 x10 x11 x12 t1 mrs x13 x14 x15 x16 mwr x17 (nk + 1), ar_n cI x4 33 fs, ar_b cZ x7 33 lb, ar_n cI x11 33 hc, ar_i cI x12 6400 hh] H := hP
                      have hD : va_D A [mo_c o mth mty x0 mat mfr mto mgd mrd x1 x2 x3 mhf mhp mcl mck mba mct x4 x5 x6 x7 x8 mst x9 x10 x11 x12 t1 mrs x13 x14 x15 x16 mwr x17 (nk + 1), ar_n cI x4 33 fs, ar_b cZ x7 33 lb, ar_n cI x11 33 hc, ar_i cI x12 6400 hh] := hD
                      refine lv_goto hx hb dc_Mo_positive_149 rfl ?_
                      have hl := lv_sub (l' := [(3, .int (nI (400 * (j - mba - 1)))), (2, .int (nI (pt_st true))), (0, .ref o), (1, .int (nI j))]) hl [2, 0, 3, 4] rfl
                      exact ih_15 _ _ _ _ _ _ _ _ _ _ (by omega) hP hD hS hl (by rw [← h1]; exact (fp_cf (by omega) hc39 hcl hnb hc115).symm) (⟨by omega, by omega⟩) (h3)
                  · have hrd : pt_rdy (fs h) t1 f1 = false := by rw [h3.2.1, rdy_ref (h16 h), decide_eq_false (show ¬ pt_bits (nb_d (fs h) (t1 ||| nb_op t1)) 16 < 2 by omega), Bool.and_false]
                    refine lv_iconst (v := nI 0) hx hb dc_Mo_positive_107 (by decide +kernel) ?_
                    exact kw_iret hx hb hr hlocks hP hD hS dc_Mo_positive_108 (by rw [← h1, fp_bad (by omega) hc39 hcl (Or.inr (Or.inr (Or.inr hrd)))]; rfl) (by rw [← h1, fp_bad (by omega) hc39 hcl (Or.inr (Or.inr (Or.inr hrd)))])
  exact lp_15 _ mfo false n mtr (nb_op mtr) rs im _ _ _ (Nat.lt_succ_self _) hP hD hS hl (rfl) (⟨by omega, by omega⟩) (hcap)

set_option maxHeartbeats 4000000 in
set_option maxRecDepth 100000 in
theorem ct_Mo_followsPartners (l : Launch) (D : va_G) (cI cZ : ClassId) (sz : Nat) (o : Nat) (mth : Nat) (mty : Nat) (x0 : Nat) (mat : Nat) (mfr : Nat) (mto : Nat) (mgd : Bool) (mrd : Nat) (x1 : Nat) (x2 : Nat) (x3 : Nat) (mhf : Bool) (mhp : Bool) (mcl : Bool) (mck : Bool) (mba : Nat) (mct : Nat) (x4 : Nat) (x5 : Nat) (x6 : Nat) (x7 : Nat) (x8 : Nat) (mst : Nat) (x9 : Nat) (x10 : Nat) (x11 : Nat) (x12 : Nat) (mtr : Nat) (mrs : Nat) (x13 : Nat) (x14 : Nat) (x15 : Nat) (x16 : Nat) (mwr : Nat) (x17 : Nat) (mfo : Nat) (fs : Nat → Nat) (fl : Nat → Int32) (lb : Nat → Bool) (hc : Nat → Nat) (hh : Nat → Int32) (rs : Nat → Nat) (im : Nat → Nat) (j : Nat) (lv : Nat) (qb : Nat) (pb : Nat) (gc : Bool) (gn : Nat) (gt : Nat) (gf : Nat) (hv : Nat → Int32) (hct : mct ≤ 32) (h16 : ∀ j, fs j < 65536) (hlb : ∀ j, 1 ≤ j → j ≤ mct → lb j = lv.testBit j) (hj1 : mba < j) (hj2 : j ≤ 32) (hj3 : j ≤ mba + 16) (hc4 : hc j ≤ 400) (hhv : ∀ k, hv k = if k < hc j then hh (400 * (j - mba - 1) + k) else 0) (ht16 : mtr < 65536) (hfo : mfo ≤ 400) (hqb : qb < 16) (hlit : fl (j * 8) = pt_lit qb) (hpb : (qb + 8) % 16 = pb) : Met l yn_Mo_followsPartners (Cond.code yn_Mo_followsPartners bc_Mo_followsPartners 7 (some .boolean) :: kx_all) ({ frames := 3, cells := 0, slots := 0, locals := 65 } : Room) (kp [.ref o, .int (nI j)] D cI cZ [mo_c o mth mty x0 mat mfr mto mgd mrd x1 x2 x3 mhf mhp mcl mck mba mct x4 x5 x6 x7 x8 mst x9 x10 x11 x12 mtr mrs x13 x14 x15 x16 mwr x17 mfo, ar_n cI x4 33 fs, ar_i cI x6 264 fl, ar_b cZ x7 33 lb, ar_n cI x11 33 hc, ar_i cI x12 6400 hh] sz) (kw_e (some (.int (kb_i ((pt_vp fs lv mct (2 ^ pb) mtr hv (hc j) mct 1 mfo gc gn gt gf rs im).1)))) D kc_l (fun ex : Nat => [mo_c o mth mty x0 mat mfr mto mgd mrd x1 x2 x3 mhf mhp mcl mck mba mct x4 x5 x6 x7 x8 mst x9 x10 x11 x12 ex mrs x13 x14 x15 x16 mwr x17 ((pt_vp fs lv mct (2 ^ pb) mtr hv (hc j) mct 1 mfo gc gn gt gf rs im).2.1), ar_n cI x4 33 fs, ar_i cI x6 264 fl, ar_b cZ x7 33 lb, ar_n cI x11 33 hc, ar_i cI x12 6400 hh]) (va_A [mo_c o mth mty x0 mat mfr mto mgd mrd x1 x2 x3 mhf mhp mcl mck mba mct x4 x5 x6 x7 x8 mst x9 x10 x11 x12 mtr mrs x13 x14 x15 x16 mwr x17 mfo, ar_n cI x4 33 fs, ar_i cI x6 264 fl, ar_b cZ x7 33 lb, ar_n cI x11 33 hc, ar_i cI x12 6400 hh] sz)) 0 0 (va_A [mo_c o mth mty x0 mat mfr mto mgd mrd x1 x2 x3 mhf mhp mcl mck mba mct x4 x5 x6 x7 x8 mst x9 x10 x11 x12 mtr mrs x13 x14 x15 x16 mwr x17 mfo, ar_n cI x4 33 fs, ar_i cI x6 264 fl, ar_b cZ x7 33 lb, ar_n cI x11 33 hc, ar_i cI x12 6400 hh] sz) := by
  refine kx_metE (by decide) (Nat.le_of_ble_eq_true rfl) ?_
  intro p e s m below meth c ls A hx hb hr hml hts hown hlocks hin hA hP hK hD hN hl hS
  have hown : s.vm.findClass rn_Mo = some m.cls := hown
  have hl : lv_has ls 7 [(0, .ref o), (1, .int (nI j))] := hl
  have hve : ∀ k, k < hc j → hh (400 * (j - mba - 1) + k) = hv k := fun k hk => by rw [hhv k, if_pos hk]
  refine lv_aload_n hx hb dc_Mo_followsPartners_0 rfl (lv_at hl 0 rfl) ?_
  refine va_get (ci := 10) (v := .ref x6) (C := rn_Mo) (T := fd_Mo) (N := 36) hx hb hts in_Mo hown hK hP 0 rfl rfl 19 (by decide) (hts _ wd_765) (fun _ h9 => h9) rfl dc_Mo_followsPartners_1 ?_
  refine lv_bipush (v := nI 8) hx hb dc_Mo_followsPartners_4 (by decide +kernel) ?_
  refine lv_iload_n hx hb dc_Mo_followsPartners_6 rfl (lv_at hl 1 rfl) ?_
  refine kn_imul hx hb dc_Mo_followsPartners_7 ?_
  refine ka_iald (f := fl) hx hb hK hP 2 0 rfl rfl (j := 8 * j) (by omega) (by omega) dc_Mo_followsPartners_8 ?_
  refine kn_top (y := pt_lit qb) ((congrArg fl (show 8 * j = j * 8 by omega)).trans hlit) ?_
  refine kr_call1 (va_runS (As := [.int (pt_lit qb)]) (rest := []) ⟨hx, hb, hml, hown, hts⟩ (ct_Mo_bitOf l D cI cZ _ qb (hqb)) (cwS 1 hts (kx_gS wd_915 wd_916 wd_9 wd_917) rfl rfl rfl ⟨rfl, yd_Mo_bitOf⟩ ⟨Nat.le_of_ble_eq_true rfl, Nat.le_of_ble_eq_true rfl⟩) (kp_S hP hD hK hN [] rfl rfl) rfl rfl hl.1 rfl (lv_room (Nat.le_of_ble_eq_true rfl)) dc_Mo_followsPartners_9 ⟨Nat.le_of_ble_eq_true rfl, Nat.le_of_ble_eq_true rfl⟩) ?_
  refine kr_call1 (va_runS (As := [.int (nI (2 ^ qb))]) (rest := []) ⟨hx, hb, hml, hown, hts⟩ (ct_Mo_opposite l D cI cZ _ (2 ^ qb) (Nat.pow_lt_pow_right (by decide) hqb)) (cwS 1 hts (kx_gS wd_946 wd_947 wd_9 wd_948) rfl rfl rfl ⟨rfl, yd_Mo_opposite⟩ ⟨Nat.le_of_ble_eq_true rfl, Nat.le_of_ble_eq_true rfl⟩) (kp_S hP hD hK hN [] rfl rfl) rfl rfl hl.1 rfl (lv_room (Nat.le_of_ble_eq_true rfl)) dc_Mo_followsPartners_12 ⟨Nat.le_of_ble_eq_true rfl, Nat.le_of_ble_eq_true rfl⟩) ?_
  refine kn_top (y := nI (2 ^ pb)) (congrArg nI (op_pow qb hqb pb hpb)) ?_
  refine lv_istore_n (lv' := [(2, .int (nI (2 ^ pb))), (0, .ref o), (1, .int (nI j))]) hx hb dc_Mo_followsPartners_15 rfl hl (by decide) rfl (fun ls hl => ?_)
  refine lv_aload_n hx hb dc_Mo_followsPartners_16 rfl (lv_at hl 1 rfl) ?_
  refine va_get (ci := 10) (v := .int (nI mtr)) (C := rn_Mo) (T := fd_Mo) (N := 36) hx hb hts in_Mo hown hK hP 0 rfl rfl 27 (by decide) (hts _ wd_773) (fun _ h9 => h9) rfl dc_Mo_followsPartners_17 ?_
  refine lv_istore_n (lv' := [(3, .int (nI mtr)), (2, .int (nI (2 ^ pb))), (0, .ref o), (1, .int (nI j))]) hx hb dc_Mo_followsPartners_20 rfl hl (by decide) rfl (fun ls hl => ?_)
  refine lv_sipush (v := nI 400) hx hb dc_Mo_followsPartners_21 (by decide +kernel) ?_
  refine lv_iload_n hx hb dc_Mo_followsPartners_24 rfl (lv_at hl 3 rfl) ?_
  refine lv_aload_n hx hb dc_Mo_followsPartners_25 rfl (lv_at hl 2 rfl) ?_
  refine va_get (ci := 10) (v := .int (nI mba)) (C := rn_Mo) (T := fd_Mo) (N := 36) hx hb hts in_Mo hown hK hP 0 rfl rfl 15 (by decide) (hts _ wd_761) (fun _ h9 => h9) rfl dc_Mo_followsPartners_26 ?_
  refine kn_isub hx hb (by omega) dc_Mo_followsPartners_29 ?_
  refine lv_iconst (v := nI 1) hx hb dc_Mo_followsPartners_30 (by decide +kernel) ?_
  refine kn_isub hx hb (by omega) dc_Mo_followsPartners_31 ?_
  refine kn_imul hx hb dc_Mo_followsPartners_32 ?_
  refine lv_istore (lv' := [(4, .int (nI (400 * ((j - mba) - 1)))), (3, .int (nI mtr)), (2, .int (nI (2 ^ pb))), (0, .ref o), (1, .int (nI j))]) hx hb dc_Mo_followsPartners_33 hl (by decide) rfl (fun ls hl => ?_)
  refine lv_iconst (v := nI 1) hx hb dc_Mo_followsPartners_35 (by decide +kernel) ?_
  refine lv_istore (lv' := [(5, .int (nI 1)), (4, .int (nI (400 * ((j - mba) - 1)))), (3, .int (nI mtr)), (2, .int (nI (2 ^ pb))), (0, .ref o), (1, .int (nI j))]) hx hb dc_Mo_followsPartners_36 hl (by decide) rfl (fun ls hl => ?_)
  have lp_38 : ∀ (K : Nat) (p0 : Nat) (nk : Nat) (ck1 : Bool) (n1 : Nat) (t1 : Nat) (f1 : Nat) (rs1 : Nat → Nat) (im1 : Nat → Nat) (tr1 : Nat) (H : Heap) (locs : List Loc) (ls : Array Slot), mct + 1 - p0 < K → va_P D kc_l [mo_c o mth mty x0 mat mfr mto mgd mrd x1 x2 x3 mhf mhp mcl mck mba mct x4 x5 x6 x7 x8 mst x9 x10 x11 x12 tr1 mrs x13 x14 x15 x16 mwr x17 nk, ar_n cI x4 33 fs, ar_i cI x6 264 fl, ar_b cZ x7 33 lb, ar_n cI x11 33 hc, ar_i cI x12 6400 hh] H → va_D A [mo_c o mth mty x0 mat mfr mto mgd mrd x1 x2 x3 mhf mhp mcl mck mba mct x4 x5 x6 x7 x8 mst x9 x10 x11 x12 tr1 mrs x13 x14 x15 x16 mwr x17 nk, ar_n cI x4 33 fs, ar_i cI x6 264 fl, ar_b cZ x7 33 lb, ar_n cI x11 33 hc, ar_i cI x12 6400 hh] → va_S A s.heap H locs → lv_has ls 7 [(5, .int (nI p0)), (4, .int (nI (400 * (j - mba - 1)))), (3, .int (nI mtr)), (2, .int (nI (2 ^ pb))), (0, .ref o), (1, .int (nI j))] → (pt_vp fs lv mct (2 ^ pb) mtr hv (hc j) (mct + 1 - p0) p0 nk ck1 n1 t1 f1 rs1 im1 = pt_vp fs lv mct (2 ^ pb) mtr hv (hc j) mct 1 mfo gc gn gt gf rs im) → (1 ≤ p0 ∧ p0 ≤ mct + 1) → (nk ≤ 400) → W p l e ({ frames := 3, cells := 0, slots := 0, locals := 65 } : Room) s m ([.ref o, .int (nI j)] : List Value).toArray below meth c H locs 0 0 (MQ below (kw_e (some (.int (kb_i ((pt_vp fs lv mct (2 ^ pb) mtr hv (hc j) mct 1 mfo gc gn gt gf rs im).1)))) D kc_l (fun ex : Nat => [mo_c o mth mty x0 mat mfr mto mgd mrd x1 x2 x3 mhf mhp mcl mck mba mct x4 x5 x6 x7 x8 mst x9 x10 x11 x12 ex mrs x13 x14 x15 x16 mwr x17 ((pt_vp fs lv mct (2 ^ pb) mtr hv (hc j) mct 1 mfo gc gn gt gf rs im).2.1), ar_n cI x4 33 fs, ar_i cI x6 264 fl, ar_b cZ x7 33 lb, ar_n cI x11 33 hc, ar_i cI x12 6400 hh]) A) ([.ref o, .int (nI j)] : List Value).toArray s 0 0 A) (F0 m 38 ls []) := by
    intro K
    induction K with
    | zero =>
      intro p0 nk ck1 n1 t1 f1 rs1 im1 tr1 H locs ls hk
      exact absurd hk (Nat.not_lt_zero _)
    | succ K ih_38 =>
      intro p0 nk ck1 n1 t1 f1 rs1 im1 tr1 H locs ls hk hP hD hS hl h1 h2 h3
      refine lv_iload hx hb dc_Mo_followsPartners_38 (lv_at hl 0 rfl) ?_
      refine lv_aload_n hx hb dc_Mo_followsPartners_40 rfl (lv_at hl 4 rfl) ?_
      refine va_get (ci := 10) (v := .int (nI mct)) (C := rn_Mo) (T := fd_Mo) (N := 36) hx hb hts in_Mo hown hK hP 0 rfl rfl 16 (by decide) (hts _ wd_762) (fun _ h9 => h9) rfl dc_Mo_followsPartners_41 ?_
      refine kn_icmp_gt hx hb (by omega) (by omega) dc_Mo_followsPartners_44 rfl (fun hc44 => ?_) (fun hc44 => ?_)
      · refine lv_iconst (v := nI 1) hx hb dc_Mo_followsPartners_160 (by decide +kernel) ?_
        refine kn_top (y := kb_i true) (by decide +kernel) ?_
        exact ke_zret (x := tr1) hx hb hr hlocks hP hD hS dc_Mo_followsPartners_161 (by rw [← h1, vp_en (by omega)]) (by rw [← h1, vp_en (by omega)])
      · refine lv_aload_n hx hb dc_Mo_followsPartners_47 rfl (lv_at hl 4 rfl) ?_
        refine va_get (ci := 10) (v := .ref x7) (C := rn_Mo) (T := fd_Mo) (N := 36) hx hb hts in_Mo hown hK hP 0 rfl rfl 20 (by decide) (hts _ wd_766) (fun _ h9 => h9) rfl dc_Mo_followsPartners_48 ?_
        refine lv_iload hx hb dc_Mo_followsPartners_51 (lv_at hl 0 rfl) ?_
        refine ka_bald (t := lb) hx hb hK hP 3 1 rfl rfl (j := p0) (by omega) (by omega) dc_Mo_followsPartners_53 ?_
        refine kb_if_eq hx hb dc_Mo_followsPartners_54 rfl (fun hc54 => ?_) (fun hc54 => ?_)
        · have hlp : lv.testBit p0 = false := by rw [← hlb p0 (by omega) (by omega)]; exact hc54
          refine lv_iinc (k := 0) (v := nI (p0 + 1)) (lv' := [(5, .int (nI (p0 + 1))), (4, .int (nI (400 * (j - mba - 1)))), (3, .int (nI mtr)), (2, .int (nI (2 ^ pb))), (0, .ref o), (1, .int (nI j))]) hx hb dc_Mo_followsPartners_154 hl rfl (nI_1 _) (by decide) rfl (fun ls hl => ?_)
          refine lv_goto hx hb dc_Mo_followsPartners_157 rfl ?_
          exact ih_38 _ _ _ _ _ _ _ _ _ _ _ _ (by omega) hP hD hS hl (by rw [← h1]; exact (vp_no (by omega) (Or.inl hlp)).symm) (⟨by omega, by omega⟩) (by omega)
        · refine lv_aload_n hx hb dc_Mo_followsPartners_57 rfl (lv_at hl 4 rfl) ?_
          refine va_get (ci := 10) (v := .ref x4) (C := rn_Mo) (T := fd_Mo) (N := 36) hx hb hts in_Mo hown hK hP 0 rfl rfl 17 (by decide) (hts _ wd_763) (fun _ h9 => h9) rfl dc_Mo_followsPartners_58 ?_
          refine lv_iload hx hb dc_Mo_followsPartners_61 (lv_at hl 0 rfl) ?_
          refine ka_nald (t := fs) hx hb hK hP 1 0 rfl rfl (j := p0) (by omega) (by omega) dc_Mo_followsPartners_63 ?_
          refine lv_iload_n hx hb dc_Mo_followsPartners_64 rfl (lv_at hl 3 rfl) ?_
          refine kn_iand hx hb dc_Mo_followsPartners_65 ?_
          refine kn_if_eq hx hb (Nat.lt_of_le_of_lt Nat.and_le_left (Nat.lt_trans (h16 p0) (by decide))) dc_Mo_followsPartners_66 rfl (fun hc66 => ?_) (fun hc66 => ?_)
          · refine lv_iinc (k := 0) (v := nI (p0 + 1)) (lv' := [(5, .int (nI (p0 + 1))), (4, .int (nI (400 * (j - mba - 1)))), (3, .int (nI mtr)), (2, .int (nI (2 ^ pb))), (0, .ref o), (1, .int (nI j))]) hx hb dc_Mo_followsPartners_154 hl rfl (nI_1 _) (by decide) rfl (fun ls hl => ?_)
            refine lv_goto hx hb dc_Mo_followsPartners_157 rfl ?_
            exact ih_38 _ _ _ _ _ _ _ _ _ _ _ _ (by omega) hP hD hS hl (by rw [← h1]; exact (vp_no (by omega) (Or.inr hc66)).symm) (⟨by omega, by omega⟩) (by omega)
          · have hlp : lv.testBit p0 = true := by rw [← hlb p0 (by omega) (by omega)]; exact hc54
            have hpn : ¬ (lv.testBit p0 = false ∨ fs p0 &&& 2 ^ pb = 0) := fun q => q.elim (fun q1 => by rw [hlp] at q1; exact absurd q1 (by decide)) hc66
            refine lv_aload_n hx hb dc_Mo_followsPartners_69 rfl (lv_at hl 4 rfl) ?_
            refine va_get (ci := 10) (v := .int (nI nk)) (C := rn_Mo) (T := fd_Mo) (N := 36) hx hb hts in_Mo hown hK hP 0 rfl rfl 35 (by decide) (hts _ wd_781) (fun _ h9 => h9) rfl dc_Mo_followsPartners_70 ?_
            refine lv_aload_n hx hb dc_Mo_followsPartners_73 rfl (lv_at hl 4 rfl) ?_
            refine va_get (ci := 10) (v := .ref x11) (C := rn_Mo) (T := fd_Mo) (N := 36) hx hb hts in_Mo hown hK hP 0 rfl rfl 25 (by decide) (hts _ wd_771) (fun _ h9 => h9) rfl dc_Mo_followsPartners_74 ?_
            refine lv_iload_n hx hb dc_Mo_followsPartners_77 rfl (lv_at hl 5 rfl) ?_
            refine ka_nald (t := hc) hx hb hK hP 4 0 rfl rfl (j := j) (by omega) (by omega) dc_Mo_followsPartners_78 ?_
            refine kn_icmp_ge hx hb (by omega) (by omega) dc_Mo_followsPartners_79 rfl (fun hc79 => ?_) (fun hc79 => ?_)
            · have hne : ¬ hv nk = -nI p0 := fun q => by rw [hhv nk, if_neg (by omega)] at q; exact neg_n0 p0 (by omega) (by omega) q.symm
              refine lv_iconst (v := nI 0) hx hb dc_Mo_followsPartners_100 (by decide +kernel) ?_
              refine kn_top (y := kb_i false) (by decide +kernel) ?_
              exact ke_zret (x := tr1) hx hb hr hlocks hP hD hS dc_Mo_followsPartners_101 (by rw [← h1, vp_hint (by omega) hpn hne]) (by rw [← h1, vp_hint (by omega) hpn hne])
            · refine lv_aload_n hx hb dc_Mo_followsPartners_82 rfl (lv_at hl 4 rfl) ?_
              refine va_get (ci := 10) (v := .ref x12) (C := rn_Mo) (T := fd_Mo) (N := 36) hx hb hts in_Mo hown hK hP 0 rfl rfl 26 (by decide) (hts _ wd_772) (fun _ h9 => h9) rfl dc_Mo_followsPartners_83 ?_
              refine lv_iload hx hb dc_Mo_followsPartners_86 (lv_at hl 1 rfl) ?_
              refine lv_aload_n hx hb dc_Mo_followsPartners_88 rfl (lv_at hl 4 rfl) ?_
              refine va_get (ci := 10) (v := .int (nI nk)) (C := rn_Mo) (T := fd_Mo) (N := 36) hx hb hts in_Mo hown hK hP 0 rfl rfl 35 (by decide) (hts _ wd_781) (fun _ h9 => h9) rfl dc_Mo_followsPartners_89 ?_
              refine kn_iadd hx hb dc_Mo_followsPartners_92 ?_
              refine ka_iald (f := hh) hx hb hK hP 5 0 rfl rfl (j := (400 * (j - mba - 1)) + nk) (by omega) (by omega) dc_Mo_followsPartners_93 ?_
              refine kn_top (y := hv nk) (hve nk (by omega)) ?_
              refine lv_iload hx hb dc_Mo_followsPartners_94 (lv_at hl 0 rfl) ?_
              refine lv_ineg hx hb dc_Mo_followsPartners_96 ?_
              refine lv_icmp_eq hx hb dc_Mo_followsPartners_97 rfl (fun hc97 => ?_) (fun hc97 => ?_)
              · refine lv_aload_n hx hb dc_Mo_followsPartners_102 rfl (lv_at hl 4 rfl) ?_
                refine lv_dup hx hb dc_Mo_followsPartners_103 rfl ?_
                refine va_get (ci := 10) (v := .int (nI nk)) (C := rn_Mo) (T := fd_Mo) (N := 36) hx hb hts in_Mo hown hK hP 0 rfl rfl 35 (by decide) (hts _ wd_781) (fun _ h9 => h9) rfl dc_Mo_followsPartners_104 ?_
                refine lv_iconst (v := nI 1) hx hb dc_Mo_followsPartners_107 (by decide +kernel) ?_
                refine kn_iadd hx hb dc_Mo_followsPartners_108 ?_
                refine va_put (ci := 10) (v := .int (nI (nk + 1))) (ty := .int) (C := rn_Mo) (T := fd_Mo) (N := 36) hx hb hts in_Mo ty_Mo tk_Mo nm_Mo hown hK hP hD hS 0 rfl rfl 35 (by decide) (hts _ wd_781) (fun _ h9 => h9) rfl (by decide +kernel) rfl rfl (Nat.le_of_ble_eq_true rfl) dc_Mo_followsPartners_109 (fun H locs hP hD hS => ?_)
                have hP : va_P D kc_l [mo_c o mth mty x0 mat mfr mto mgd mrd x1 x2 x3 mhf mhp mcl mck mba mct x4 x5 x6 x7 x8 mst x9 x10 x11 x12 tr1 mrs x13 x14 x15 x16 mwr x17 (nk + 1), ar_n cI x4 33 fs, ar_i cI x6 264 fl, ar_b cZ x7 33 lb, ar_n cI x11 33 hc, ar_i cI x12 6400 hh] H := hP
                have hD : va_D A [mo_c o mth mty x0 mat mfr mto mgd mrd x1 x2 x3 mhf mhp mcl mck mba mct x4 x5 x6 x7 x8 mst x9 x10 x11 x12 tr1 mrs x13 x14 x15 x16 mwr x17 (nk + 1), ar_n cI x4 33 fs, ar_i cI x6 264 fl, ar_b cZ x7 33 lb, ar_n cI x11 33 hc, ar_i cI x12 6400 hh] := hD
                refine lv_aload_n hx hb dc_Mo_followsPartners_112 rfl (lv_at hl 4 rfl) ?_
                refine va_get (ci := 10) (v := .ref x4) (C := rn_Mo) (T := fd_Mo) (N := 36) hx hb hts in_Mo hown hK hP 0 rfl rfl 17 (by decide) (hts _ wd_763) (fun _ h9 => h9) rfl dc_Mo_followsPartners_113 ?_
                refine lv_iload hx hb dc_Mo_followsPartners_116 (lv_at hl 0 rfl) ?_
                refine ka_nald (t := fs) hx hb hK hP 1 0 rfl rfl (j := p0) (by omega) (by omega) dc_Mo_followsPartners_118 ?_
                refine lv_iload_n hx hb dc_Mo_followsPartners_119 rfl (lv_at hl 3 rfl) ?_
                refine lv_iconst (v := (-1)) hx hb dc_Mo_followsPartners_120 (by decide +kernel) ?_
                refine lv_ixor hx hb dc_Mo_followsPartners_121 ?_
                refine kn_inot hx hb dc_Mo_followsPartners_122 ?_
                refine lv_istore (lv' := [(6, .int (nI (nb_d (fs p0) (2 ^ pb)))), (5, .int (nI p0)), (4, .int (nI (400 * (j - mba - 1)))), (3, .int (nI mtr)), (2, .int (nI (2 ^ pb))), (0, .ref o), (1, .int (nI j))]) hx hb dc_Mo_followsPartners_123 hl (by decide) rfl (fun ls hl => ?_)
                refine lv_aload_n hx hb dc_Mo_followsPartners_125 rfl (lv_at hl 5 rfl) ?_
                refine lv_iload_n hx hb dc_Mo_followsPartners_126 rfl (lv_at hl 3 rfl) ?_
                refine lv_iload hx hb dc_Mo_followsPartners_127 (lv_at hl 0 rfl) ?_
                refine kr_call1 (va_runS (As := [.int (nI (nb_d (fs p0) (2 ^ pb)))]) (rest := [.int (nI mtr), .ref o]) ⟨hx, hb, hml, hown, hts⟩ (ct_Mo_opposite l D cI cZ _ (nb_d (fs p0) (2 ^ pb)) (nb_d_lt (n := 16) (h16 p0))) (cwS 1 hts (kx_gS wd_946 wd_947 wd_9 wd_948) rfl rfl rfl ⟨rfl, yd_Mo_opposite⟩ ⟨Nat.le_of_ble_eq_true rfl, Nat.le_of_ble_eq_true rfl⟩) (kp_S hP hD hK hN [] rfl rfl) rfl rfl hl.1 rfl (lv_room (Nat.le_of_ble_eq_true rfl)) dc_Mo_followsPartners_129 ⟨Nat.le_of_ble_eq_true rfl, Nat.le_of_ble_eq_true rfl⟩) ?_
                refine kn_ior hx hb dc_Mo_followsPartners_132 ?_
                refine va_put (ci := 10) (v := .int (nI (mtr ||| (nb_op (nb_d (fs p0) (2 ^ pb)))))) (ty := .int) (C := rn_Mo) (T := fd_Mo) (N := 36) hx hb hts in_Mo ty_Mo tk_Mo nm_Mo hown hK hP hD hS 0 rfl rfl 27 (by decide) (hts _ wd_773) (fun _ h9 => h9) rfl (by decide +kernel) rfl rfl (Nat.le_of_ble_eq_true rfl) dc_Mo_followsPartners_133 (fun H locs hP hD hS => ?_)
                have hP : va_P D kc_l [mo_c o mth mty x0 mat mfr mto mgd mrd x1 x2 x3 mhf mhp mcl mck mba mct x4 x5 x6 x7 x8 mst x9 x10 x11 x12 (mtr ||| (nb_op (nb_d (fs p0) (2 ^ pb)))) mrs x13 x14 x15 x16 mwr x17 (nk + 1), ar_n cI x4 33 fs, ar_i cI x6 264 fl, ar_b cZ x7 33 lb, ar_n cI x11 33 hc, ar_i cI x12 6400 hh] H := hP
                have hD : va_D A [mo_c o mth mty x0 mat mfr mto mgd mrd x1 x2 x3 mhf mhp mcl mck mba mct x4 x5 x6 x7 x8 mst x9 x10 x11 x12 (mtr ||| (nb_op (nb_d (fs p0) (2 ^ pb)))) mrs x13 x14 x15 x16 mwr x17 (nk + 1), ar_n cI x4 33 fs, ar_i cI x6 264 fl, ar_b cZ x7 33 lb, ar_n cI x11 33 hc, ar_i cI x12 6400 hh] := hD
                refine lv_iload hx hb dc_Mo_followsPartners_136 (lv_at hl 0 rfl) ?_
                refine lv_iload_n hx hb dc_Mo_followsPartners_138 rfl (lv_at hl 3 rfl) ?_
                refine kn_iand hx hb dc_Mo_followsPartners_139 ?_
                refine kn_if_ne hx hb (Nat.lt_of_le_of_lt Nat.and_le_left (Nat.lt_trans (nb_d_lt (n := 16) (h16 p0)) (by decide))) dc_Mo_followsPartners_140 rfl (fun hc140 => ?_) (fun hc140 => ?_)
                · refine lv_iinc (k := 1) (v := nI (p0 + 1)) (lv' := [(5, .int (nI (p0 + 1))), (6, .int (nI (nb_d (fs p0) (2 ^ pb)))), (4, .int (nI (400 * (j - mba - 1)))), (3, .int (nI mtr)), (2, .int (nI (2 ^ pb))), (0, .ref o), (1, .int (nI j))]) hx hb dc_Mo_followsPartners_154 hl rfl (nI_1 _) (by decide) rfl (fun ls hl => ?_)
                  refine lv_goto hx hb dc_Mo_followsPartners_157 rfl ?_
                  have hl := lv_sub (l' := [(5, .int (nI (p0 + 1))), (4, .int (nI (400 * (j - mba - 1)))), (3, .int (nI mtr)), (2, .int (nI (2 ^ pb))), (0, .ref o), (1, .int (nI j))]) hl [0, 2, 3, 4, 5, 6] rfl
                  exact ih_38 _ _ _ _ _ _ _ _ _ _ _ _ (by omega) hP hD hS hl (by rw [← h1]; exact (vp_true (by omega) hpn hc97 hc140).symm) (⟨by omega, by omega⟩) (by omega)
                · have ho16 : nb_d (fs p0) (2 ^ pb) < 65536 := nb_d_lt (n := 16) (h16 p0)
                  have hnt : (mtr ||| nb_op (nb_d (fs p0) (2 ^ pb))) < 65536 := Nat.or_lt_two_pow (n := 16) ht16 (nb_op_lt ho16)
                  have hcap9 : pt_cap 0 (mtr ||| nb_op (nb_d (fs p0) (2 ^ pb))) (nb_op (mtr ||| nb_op (nb_d (fs p0) (2 ^ pb)))) := ⟨hnt, rfl, by have := free_le (mtr ||| nb_op (nb_d (fs p0) (2 ^ pb))); omega⟩
                  refine lv_aload_n hx hb dc_Mo_followsPartners_143 rfl (lv_at hl 5 rfl) ?_
                  refine lv_iload_n hx hb dc_Mo_followsPartners_144 rfl (lv_at hl 6 rfl) ?_
                  refine kw_call1 (wr := [ar_i cI x6 264 fl]) (ws' := [mo_c o mth mty x0 mat mfr mto mgd mrd x1 x2 x3 mhf mhp mcl mck mba mct x4 x5 x6 x7 x8 mst x9 x10 x11 x12 ((pt_fp fs lv mct hv (hc j - (nk + 1)) (nk + 1) false 0 (mtr ||| (nb_op (nb_d (fs p0) (2 ^ pb)))) (nb_op (mtr ||| (nb_op (nb_d (fs p0) (2 ^ pb))))) rs1 im1).2.2.2.2.1) mrs x13 x14 x15 x16 mwr x17 ((pt_fp fs lv mct hv (hc j - (nk + 1)) (nk + 1) false 0 (mtr ||| (nb_op (nb_d (fs p0) (2 ^ pb)))) (nb_op (mtr ||| (nb_op (nb_d (fs p0) (2 ^ pb))))) rs1 im1).2.1), ar_n cI x4 33 fs, ar_i cI x6 264 fl, ar_b cZ x7 33 lb, ar_n cI x11 33 hc, ar_i cI x12 6400 hh]) (va_runV (As := [.int (nI j)]) (rest := []) ⟨hx, hb, hml, hown, hts⟩ (ct_Mo_positive l D cI cZ _ o mth mty x0 mat mfr mto mgd mrd x1 x2 x3 mhf mhp mcl mck mba mct x4 x5 x6 x7 x8 mst x9 x10 x11 x12 (mtr ||| (nb_op (nb_d (fs p0) (2 ^ pb)))) mrs x13 x14 x15 x16 mwr x17 (nk + 1) fs lb hc hh rs1 im1 j lv 0 hv (hct) (h16) (hlb) (hj1) (hj2) (hj3) (hc4) (hhv) (hcap9) (by omega)) (cwV 1 hts (kx_gV wd_1032 wd_1034 (kx_sel (q := (yn_Mo_positive, 36)) (List.mem_append_right _ (List.mem_append_right _ (List.mem_of_getElem? (i := 6) rfl)))) wd_9 wd_1035) rfl rfl rfl ⟨rfl, yd_Mo_positive⟩ ⟨Nat.le_of_ble_eq_true rfl, Nat.le_of_ble_eq_true rfl⟩) (kp_V (q0 := 0) (ci := 10) hP hD hK hN [0, 1, 3, 4, 5] rfl rfl rfl rfl rfl) rfl rfl hl.1 rfl (lv_room (Nat.le_of_ble_eq_true rfl)) dc_Mo_followsPartners_145 ⟨Nat.le_of_ble_eq_true rfl, Nat.le_of_ble_eq_true rfl⟩) hP hD hS hA [0, 1, 3, 4, 5] [2] [1, 2, 0, 3, 4, 5] rfl rfl rfl (by decide) rfl rfl (fun H locs hP hD hS => ?_)
                  have hfx := fp_nx fs lv mct hv (hc j - (nk + 1)) (nk + 1) false 0 (mtr ||| nb_op (nb_d (fs p0) (2 ^ pb))) (nb_op (mtr ||| nb_op (nb_d (fs p0) (2 ^ pb)))) rs1 im1
                  generalize hZe : pt_fp fs lv mct hv (hc j - (nk + 1)) (nk + 1) false 0 (mtr ||| nb_op (nb_d (fs p0) (2 ^ pb))) (nb_op (mtr ||| nb_op (nb_d (fs p0) (2 ^ pb)))) rs1 im1 = ZZ at hP hD hfx ⊢
                  refine lv_iconst (v := nI 2) hx hb dc_Mo_followsPartners_148 (by decide +kernel) ?_
                  refine kn_icmp_eq hx hb (rv_lt _ _) (by omega) dc_Mo_followsPartners_149 rfl (fun hc149 => ?_) (fun hc149 => ?_)
                  · have hc149 := rv_2 hc149
                    refine lv_iinc (k := 1) (v := nI (p0 + 1)) (lv' := [(5, .int (nI (p0 + 1))), (6, .int (nI (nb_d (fs p0) (2 ^ pb)))), (4, .int (nI (400 * (j - mba - 1)))), (3, .int (nI mtr)), (2, .int (nI (2 ^ pb))), (0, .ref o), (1, .int (nI j))]) hx hb dc_Mo_followsPartners_154 hl rfl (nI_1 _) (by decide) rfl (fun ls hl => ?_)
                    refine lv_goto hx hb dc_Mo_followsPartners_157 rfl ?_
                    have hl := lv_sub (l' := [(5, .int (nI (p0 + 1))), (4, .int (nI (400 * (j - mba - 1)))), (3, .int (nI mtr)), (2, .int (nI (2 ^ pb))), (0, .ref o), (1, .int (nI j))]) hl [0, 2, 3, 4, 5, 6] rfl
                    exact ih_38 _ _ _ _ _ _ _ _ _ _ _ _ (by omega) hP hD hS hl (by rw [← h1]; exact (vp_go (by omega) hpn hc97 hc140 hZe hc149).symm) (⟨by omega, by omega⟩) (by omega)
                  · have hc149 := rv_n2 hc149
                    refine lv_iconst (v := nI 0) hx hb dc_Mo_followsPartners_152 (by decide +kernel) ?_
                    refine kn_top (y := kb_i false) (by decide +kernel) ?_
                    exact ke_zret (x := ZZ.2.2.2.2.1) hx hb hr hlocks hP hD hS dc_Mo_followsPartners_153 (by rw [← h1, vp_bad (by omega) hpn hc97 hc140 hZe hc149]) (by rw [← h1, vp_bad (by omega) hpn hc97 hc140 hZe hc149])
              · refine lv_iconst (v := nI 0) hx hb dc_Mo_followsPartners_100 (by decide +kernel) ?_
                refine kn_top (y := kb_i false) (by decide +kernel) ?_
                exact ke_zret (x := tr1) hx hb hr hlocks hP hD hS dc_Mo_followsPartners_101 (by rw [← h1, vp_hint (by omega) hpn hc97]) (by rw [← h1, vp_hint (by omega) hpn hc97])
  exact lp_38 _ 1 mfo gc gn gt gf rs im mtr _ _ _ (Nat.lt_succ_self _) hP hD hS hl (rfl) (⟨by omega, by omega⟩) (hfo)

theorem vp_nh {fs : Nat → Nat} {lv cn pv rc : Nat} {hv gg : Nat → Int32} {hc : Nat} (hcn : cn ≤ 32) (hh : ∀ k, hv k = if k < hc then gg k else 0) : ∀ (k p nx : Nat) (cf : Bool) (n t f : Nat) (rs im : Nat → Nat), 1 ≤ p → p + k ≤ 33 → nx ≤ hc → (pt_vp fs lv cn pv rc hv hc k p nx cf n t f rs im).2.1 ≤ hc := by
  intro k
  induction k with
  | zero => intro p nx cf n t f rs im _ _ h; exact h
  | succ k ih =>
    intro p nx cf n t f rs im hp hpk h
    rw [pt_vp]
    split
    · exact ih _ _ _ _ _ _ _ _ (by omega) (by omega) h
    · split
      · exact h
      · rename_i hq
        have hq := Classical.not_not.mp hq
        have hk : nx < hc := by
          by_cases h9 : nx < hc
          · exact h9
          · rw [hh nx, if_neg h9] at hq; exact absurd hq.symm (neg_n0 p (by omega) hp)
        split
        · exact ih _ _ _ _ _ _ _ _ (by omega) (by omega) (by omega)
        · dsimp only
          have hfx := fp_nx fs lv cn hv (hc - (nx + 1)) (nx + 1) false 0 (rc ||| nb_op (nb_d (fs p) pv)) (nb_op (rc ||| nb_op (nb_d (fs p) pv))) rs im
          split
          · exact ih _ _ _ _ _ _ _ _ (by omega) (by omega) (by omega)
          · show (pt_fp _ _ _ _ _ _ _ _ _ _ _ _).2.1 ≤ _
            omega

set_option maxHeartbeats 4000000 in
set_option maxRecDepth 100000 in
theorem ct_Mo_isGood (l : Launch) (D : va_G) (cI cZ : ClassId) (sz : Nat) (o : Nat) (mth : Nat) (mty : Nat) (x0 : Nat) (mat : Nat) (mfr : Nat) (mto : Nat) (mgd : Bool) (mrd : Nat) (x1 : Nat) (x2 : Nat) (x3 : Nat) (mhf : Bool) (mhp : Bool) (mcl : Bool) (mck : Bool) (mba : Nat) (mct : Nat) (x4 : Nat) (x5 : Nat) (x6 : Nat) (x7 : Nat) (x8 : Nat) (mst : Nat) (x9 : Nat) (x10 : Nat) (x11 : Nat) (x12 : Nat) (mtr : Nat) (mrs : Nat) (x13 : Nat) (x14 : Nat) (x15 : Nat) (x16 : Nat) (mwr : Nat) (x17 : Nat) (mfo : Nat) (fs : Nat → Nat) (fz : Nat → Nat) (fl : Nat → Int32) (lb : Nat → Bool) (hc : Nat → Nat) (hh : Nat → Int32) (rs : Nat → Nat) (im : Nat → Nat) (j : Nat) (lv : Nat) (qb : Nat) (pb : Nat) (hv : Nat → Int32) (hct : mct ≤ 32) (h16 : ∀ j, fs j < 65536) (hlb : ∀ j, 1 ≤ j → j ≤ mct → lb j = lv.testBit j) (hj1 : mba < j) (hj2 : j ≤ 32) (hj3 : j ≤ mba + 16) (hc4 : hc j ≤ 400) (hhv : ∀ k, hv k = if k < hc j then hh (400 * (j - mba - 1) + k) else 0) (hz8 : fz j ≤ 8) (hlit : 1 ≤ fz j → qb < 16 ∧ fl (j * 8) = pt_lit qb ∧ (qb + 8) % 16 = pb) : Met l yn_Mo_isGood (Cond.code yn_Mo_isGood bc_Mo_isGood 3 (some .boolean) :: kx_all) ({ frames := 4, cells := 0, slots := 0, locals := 91 } : Room) (kp [.ref o, .int (nI j)] D cI cZ [mo_c o mth mty x0 mat mfr mto mgd mrd x1 x2 x3 mhf mhp mcl mck mba mct x4 x5 x6 x7 x8 mst x9 x10 x11 x12 mtr mrs x13 x14 x15 x16 mwr x17 mfo, ar_n cI x4 33 fs, ar_n cI x5 33 fz, ar_i cI x6 264 fl, ar_b cZ x7 33 lb, ar_n cI x11 33 hc, ar_i cI x12 6400 hh] sz) (kw_e (some (.int (kb_i ((pt_good fs lv mct (fz j) pb (fs j) hv (hc j) rs im).1)))) D kc_l (fun ex : Nat => [mo_c o mth mty x0 mat mfr mto mgd mrd x1 x2 x3 mhf mhp mcl mck mba mct x4 x5 x6 x7 x8 mst x9 x10 x11 x12 ex mrs x13 x14 x15 x16 mwr x17 ((pt_good fs lv mct (fz j) pb (fs j) hv (hc j) rs im).2.1), ar_n cI x4 33 fs, ar_n cI x5 33 fz, ar_i cI x6 264 fl, ar_b cZ x7 33 lb, ar_n cI x11 33 hc, ar_i cI x12 6400 hh]) (va_A [mo_c o mth mty x0 mat mfr mto mgd mrd x1 x2 x3 mhf mhp mcl mck mba mct x4 x5 x6 x7 x8 mst x9 x10 x11 x12 mtr mrs x13 x14 x15 x16 mwr x17 mfo, ar_n cI x4 33 fs, ar_n cI x5 33 fz, ar_i cI x6 264 fl, ar_b cZ x7 33 lb, ar_n cI x11 33 hc, ar_i cI x12 6400 hh] sz)) 0 0 (va_A [mo_c o mth mty x0 mat mfr mto mgd mrd x1 x2 x3 mhf mhp mcl mck mba mct x4 x5 x6 x7 x8 mst x9 x10 x11 x12 mtr mrs x13 x14 x15 x16 mwr x17 mfo, ar_n cI x4 33 fs, ar_n cI x5 33 fz, ar_i cI x6 264 fl, ar_b cZ x7 33 lb, ar_n cI x11 33 hc, ar_i cI x12 6400 hh] sz) := by
  refine kx_metE (by decide) (Nat.le_of_ble_eq_true rfl) ?_
  intro p e s m below meth c ls A hx hb hr hml hts hown hlocks hin hA hP hK hD hN hl hS
  have hown : s.vm.findClass rn_Mo = some m.cls := hown
  have hl : lv_has ls 3 [(0, .ref o), (1, .int (nI j))] := hl
  have hx16 := nb_op_lt (h16 j)
  have hcap0 : pt_cap 0 (nb_op (fs j)) (nb_op (nb_op (fs j))) := ⟨hx16, rfl, by have := free_le (nb_op (fs j)); omega⟩
  refine lv_aload_n hx hb dc_Mo_isGood_0 rfl (lv_at hl 0 rfl) ?_
  refine lv_aload_n hx hb dc_Mo_isGood_1 rfl (lv_at hl 0 rfl) ?_
  refine va_get (ci := 10) (v := .ref x4) (C := rn_Mo) (T := fd_Mo) (N := 36) hx hb hts in_Mo hown hK hP 0 rfl rfl 17 (by decide) (hts _ wd_763) (fun _ h9 => h9) rfl dc_Mo_isGood_2 ?_
  refine lv_iload_n hx hb dc_Mo_isGood_5 rfl (lv_at hl 1 rfl) ?_
  refine ka_nald (t := fs) hx hb hK hP 1 0 rfl rfl (j := j) (by omega) (by omega) dc_Mo_isGood_6 ?_
  refine kr_call1 (va_runS (As := [.int (nI (fs j))]) (rest := [.ref o]) ⟨hx, hb, hml, hown, hts⟩ (ct_Mo_opposite l D cI cZ _ (fs j) (h16 j)) (cwS 1 hts (kx_gS wd_946 wd_947 wd_9 wd_948) rfl rfl rfl ⟨rfl, yd_Mo_opposite⟩ ⟨Nat.le_of_ble_eq_true rfl, Nat.le_of_ble_eq_true rfl⟩) (kp_S hP hD hK hN [] rfl rfl) rfl rfl hl.1 rfl (lv_room (Nat.le_of_ble_eq_true rfl)) dc_Mo_isGood_7 ⟨Nat.le_of_ble_eq_true rfl, Nat.le_of_ble_eq_true rfl⟩) ?_
  refine va_put (ci := 10) (v := .int (nI (nb_op (fs j)))) (ty := .int) (C := rn_Mo) (T := fd_Mo) (N := 36) hx hb hts in_Mo ty_Mo tk_Mo nm_Mo hown hK hP hD hS 0 rfl rfl 27 (by decide) (hts _ wd_773) (fun _ h9 => h9) rfl (by decide +kernel) rfl rfl (Nat.le_of_ble_eq_true rfl) dc_Mo_isGood_10 (fun H locs hP hD hS => ?_)
  have hP : va_P D kc_l [mo_c o mth mty x0 mat mfr mto mgd mrd x1 x2 x3 mhf mhp mcl mck mba mct x4 x5 x6 x7 x8 mst x9 x10 x11 x12 (nb_op (fs j)) mrs x13 x14 x15 x16 mwr x17 mfo, ar_n cI x4 33 fs, ar_n cI x5 33 fz, ar_i cI x6 264 fl, ar_b cZ x7 33 lb, ar_n cI x11 33 hc, ar_i cI x12 6400 hh] H := hP
  have hD : va_D A [mo_c o mth mty x0 mat mfr mto mgd mrd x1 x2 x3 mhf mhp mcl mck mba mct x4 x5 x6 x7 x8 mst x9 x10 x11 x12 (nb_op (fs j)) mrs x13 x14 x15 x16 mwr x17 mfo, ar_n cI x4 33 fs, ar_n cI x5 33 fz, ar_i cI x6 264 fl, ar_b cZ x7 33 lb, ar_n cI x11 33 hc, ar_i cI x12 6400 hh] := hD
  refine lv_aload_n hx hb dc_Mo_isGood_13 rfl (lv_at hl 0 rfl) ?_
  refine lv_iconst (v := nI 0) hx hb dc_Mo_isGood_14 (by decide +kernel) ?_
  refine va_put (ci := 10) (v := .int (nI 0)) (ty := .int) (C := rn_Mo) (T := fd_Mo) (N := 36) hx hb hts in_Mo ty_Mo tk_Mo nm_Mo hown hK hP hD hS 0 rfl rfl 35 (by decide) (hts _ wd_781) (fun _ h9 => h9) rfl (by decide +kernel) rfl rfl (Nat.le_of_ble_eq_true rfl) dc_Mo_isGood_15 (fun H locs hP hD hS => ?_)
  have hP : va_P D kc_l [mo_c o mth mty x0 mat mfr mto mgd mrd x1 x2 x3 mhf mhp mcl mck mba mct x4 x5 x6 x7 x8 mst x9 x10 x11 x12 (nb_op (fs j)) mrs x13 x14 x15 x16 mwr x17 0, ar_n cI x4 33 fs, ar_n cI x5 33 fz, ar_i cI x6 264 fl, ar_b cZ x7 33 lb, ar_n cI x11 33 hc, ar_i cI x12 6400 hh] H := hP
  have hD : va_D A [mo_c o mth mty x0 mat mfr mto mgd mrd x1 x2 x3 mhf mhp mcl mck mba mct x4 x5 x6 x7 x8 mst x9 x10 x11 x12 (nb_op (fs j)) mrs x13 x14 x15 x16 mwr x17 0, ar_n cI x4 33 fs, ar_n cI x5 33 fz, ar_i cI x6 264 fl, ar_b cZ x7 33 lb, ar_n cI x11 33 hc, ar_i cI x12 6400 hh] := hD
  refine lv_aload_n hx hb dc_Mo_isGood_18 rfl (lv_at hl 0 rfl) ?_
  refine lv_iload_n hx hb dc_Mo_isGood_19 rfl (lv_at hl 1 rfl) ?_
  refine kw_call1 (wr := [ar_n cI x5 33 fz, ar_i cI x6 264 fl]) (ws' := [mo_c o mth mty x0 mat mfr mto mgd mrd x1 x2 x3 mhf mhp mcl mck mba mct x4 x5 x6 x7 x8 mst x9 x10 x11 x12 ((pt_fp fs lv mct hv (hc j - 0) 0 false 0 (nb_op (fs j)) (nb_op (nb_op (fs j))) rs im).2.2.2.2.1) mrs x13 x14 x15 x16 mwr x17 ((pt_fp fs lv mct hv (hc j - 0) 0 false 0 (nb_op (fs j)) (nb_op (nb_op (fs j))) rs im).2.1), ar_n cI x4 33 fs, ar_n cI x5 33 fz, ar_i cI x6 264 fl, ar_b cZ x7 33 lb, ar_n cI x11 33 hc, ar_i cI x12 6400 hh]) (va_runV (As := [.int (nI j)]) (rest := []) ⟨hx, hb, hml, hown, hts⟩ (ct_Mo_positive l D cI cZ _ o mth mty x0 mat mfr mto mgd mrd x1 x2 x3 mhf mhp mcl mck mba mct x4 x5 x6 x7 x8 mst x9 x10 x11 x12 (nb_op (fs j)) mrs x13 x14 x15 x16 mwr x17 0 fs lb hc hh rs im j lv 0 hv (hct) (h16) (hlb) (hj1) (hj2) (hj3) (hc4) (hhv) (hcap0) (by omega)) (cwV 1 hts (kx_gV wd_1032 wd_1034 (kx_sel (q := (yn_Mo_positive, 36)) (List.mem_append_right _ (List.mem_append_right _ (List.mem_of_getElem? (i := 6) rfl)))) wd_9 wd_1035) rfl rfl rfl ⟨rfl, yd_Mo_positive⟩ ⟨Nat.le_of_ble_eq_true rfl, Nat.le_of_ble_eq_true rfl⟩) (kp_V (q0 := 0) (ci := 10) hP hD hK hN [0, 1, 4, 5, 6] rfl rfl rfl rfl rfl) rfl rfl hl.1 rfl (lv_room (Nat.le_of_ble_eq_true rfl)) dc_Mo_isGood_20 ⟨Nat.le_of_ble_eq_true rfl, Nat.le_of_ble_eq_true rfl⟩) hP hD hS hA [0, 1, 4, 5, 6] [2, 3] [2, 3, 0, 1, 4, 5, 6] rfl rfl rfl (by decide) rfl rfl (fun H locs hP hD hS => ?_)
  have hfx := fp_nx fs lv mct hv (hc j - 0) 0 false 0 (nb_op (fs j)) (nb_op (nb_op (fs j))) rs im
  have hft := fp_t (lv := lv) (cn := mct) (hv := hv) h16 (hc j - 0) 0 false 0 (nb_op (fs j)) (nb_op (nb_op (fs j))) rs im hcap0.1
  generalize hZe : pt_fp fs lv mct hv (hc j - 0) 0 false 0 (nb_op (fs j)) (nb_op (nb_op (fs j))) rs im = ZZ at hP hD hfx hft ⊢
  refine lv_istore_n (lv' := [(2, .int (nI (pt_rv ZZ.1 ZZ.2.2.1))), (0, .ref o), (1, .int (nI j))]) hx hb dc_Mo_isGood_23 rfl hl (by decide) rfl (fun ls hl => ?_)
  refine lv_iload_n hx hb dc_Mo_isGood_24 rfl (lv_at hl 0 rfl) ?_
  refine lv_iconst (v := nI 1) hx hb dc_Mo_isGood_25 (by decide +kernel) ?_
  refine kn_icmp_ne hx hb (rv_lt _ _) (by omega) dc_Mo_isGood_26 rfl (fun hc26 => ?_) (fun hc26 => ?_)
  · refine lv_iload_n hx hb dc_Mo_isGood_52 rfl (lv_at hl 0 rfl) ?_
    refine lv_iconst (v := nI 2) hx hb dc_Mo_isGood_53 (by decide +kernel) ?_
    refine kn_icmp_ne hx hb (rv_lt _ _) (by omega) dc_Mo_isGood_54 rfl (fun hc54 => ?_) (fun hc54 => ?_)
    · have hG : pt_good fs lv mct (fz j) pb (fs j) hv (hc j) rs im = (false, ZZ.2) := by
        rw [pt_good, hZe]; dsimp only; rw [if_pos (rv_0 hc26 hc54)]
      refine lv_iconst (v := nI 0) hx hb dc_Mo_isGood_74 (by decide +kernel) ?_
      refine kn_top (y := kb_i false) (by decide +kernel) ?_
      exact ke_zret (x := ZZ.2.2.2.2.1) hx hb hr hlocks hP hD hS dc_Mo_isGood_75 (by rw [hG]) (by rw [hG])
    · have hr2 := rv_2 hc54
      have hG : pt_good fs lv mct (fz j) pb (fs j) hv (hc j) rs im = (decide (ZZ.2.1 = hc j), ZZ.2) := by
        rw [pt_good, hZe]; dsimp only; rw [if_neg (by rw [hr2.1]; decide), if_pos hr2.2]
      refine lv_aload_n hx hb dc_Mo_isGood_57 rfl (lv_at hl 1 rfl) ?_
      refine va_get (ci := 10) (v := .int (nI ZZ.2.1)) (C := rn_Mo) (T := fd_Mo) (N := 36) hx hb hts in_Mo hown hK hP 0 rfl rfl 35 (by decide) (hts _ wd_781) (fun _ h9 => h9) rfl dc_Mo_isGood_58 ?_
      refine lv_aload_n hx hb dc_Mo_isGood_61 rfl (lv_at hl 1 rfl) ?_
      refine va_get (ci := 10) (v := .ref x11) (C := rn_Mo) (T := fd_Mo) (N := 36) hx hb hts in_Mo hown hK hP 0 rfl rfl 25 (by decide) (hts _ wd_771) (fun _ h9 => h9) rfl dc_Mo_isGood_62 ?_
      refine lv_iload_n hx hb dc_Mo_isGood_65 rfl (lv_at hl 2 rfl) ?_
      refine ka_nald (t := hc) hx hb hK hP 5 0 rfl rfl (j := j) (by omega) (by omega) dc_Mo_isGood_66 ?_
      refine kn_icmp_ne hx hb (by omega) (by omega) dc_Mo_isGood_67 rfl (fun hc67 => ?_) (fun hc67 => ?_)
      · refine lv_iconst (v := nI 0) hx hb dc_Mo_isGood_74 (by decide +kernel) ?_
        refine kn_top (y := kb_i false) (by decide +kernel) ?_
        exact ke_zret (x := ZZ.2.2.2.2.1) hx hb hr hlocks hP hD hS dc_Mo_isGood_75 (by rw [hG]; exact (decide_eq_false hc67).symm) (by rw [hG])
      · refine lv_iconst (v := nI 1) hx hb dc_Mo_isGood_70 (by decide +kernel) ?_
        refine lv_goto hx hb dc_Mo_isGood_71 rfl ?_
        refine kn_top (y := kb_i true) (by decide +kernel) ?_
        exact ke_zret (x := ZZ.2.2.2.2.1) hx hb hr hlocks hP hD hS dc_Mo_isGood_75 (by rw [hG]; exact (decide_eq_true hc67).symm) (by rw [hG])
  · have hr1 := rv_1 hc26
    refine lv_aload_n hx hb dc_Mo_isGood_29 rfl (lv_at hl 1 rfl) ?_
    refine va_get (ci := 10) (v := .ref x5) (C := rn_Mo) (T := fd_Mo) (N := 36) hx hb hts in_Mo hown hK hP 0 rfl rfl 18 (by decide) (hts _ wd_764) (fun _ h9 => h9) rfl dc_Mo_isGood_30 ?_
    refine lv_iload_n hx hb dc_Mo_isGood_33 rfl (lv_at hl 2 rfl) ?_
    refine ka_nald (t := fz) hx hb hK hP 2 0 rfl rfl (j := j) (by omega) (by omega) dc_Mo_isGood_34 ?_
    refine lv_if_le hx hb dc_Mo_isGood_35 rfl (fun hc35 => ?_) (fun hc35 => ?_)
    · have hz0 : fz j = 0 := (Nat.eq_zero_or_pos (fz j)).elim id (fun q => absurd hc35 (nI_nle q (by omega)))
      have hG : pt_good fs lv mct (fz j) pb (fs j) hv (hc j) rs im = (false, ZZ.2) := by
        rw [pt_good, hZe]; dsimp only; rw [if_neg (by rw [hr1.1]; decide), if_neg (by rw [hr1.2]; decide), if_pos hz0]
      refine lv_iconst (v := nI 0) hx hb dc_Mo_isGood_50 (by decide +kernel) ?_
      refine lv_istore_n (lv' := [(2, .int (nI 0)), (0, .ref o), (1, .int (nI j))]) hx hb dc_Mo_isGood_51 rfl hl (by decide) rfl (fun ls hl => ?_)
      refine lv_iload_n hx hb dc_Mo_isGood_52 rfl (lv_at hl 0 rfl) ?_
      refine lv_iconst (v := nI 2) hx hb dc_Mo_isGood_53 (by decide +kernel) ?_
      refine kn_icmp_ne hx hb (by omega) (by omega) dc_Mo_isGood_54 rfl (fun hc54 => ?_) (fun hc54 => ?_)
      · refine lv_iconst (v := nI 0) hx hb dc_Mo_isGood_74 (by decide +kernel) ?_
        refine kn_top (y := kb_i false) (by decide +kernel) ?_
        exact ke_zret (x := ZZ.2.2.2.2.1) hx hb hr hlocks hP hD hS dc_Mo_isGood_75 (by rw [hG]) (by rw [hG])
      · exact absurd hc54 (by decide)
    · have hz1 : 1 ≤ fz j := (Nat.eq_zero_or_pos (fz j)).elim (fun q => absurd (by rw [q]; decide +kernel) hc35) id
      refine lv_aload_n hx hb dc_Mo_isGood_38 rfl (lv_at hl 1 rfl) ?_
      refine lv_iload_n hx hb dc_Mo_isGood_39 rfl (lv_at hl 2 rfl) ?_
      refine kw_callE1 (wr := [ar_n cI x5 33 fz]) (w1 := fun ex_1 : Nat => [mo_c o mth mty x0 mat mfr mto mgd mrd x1 x2 x3 mhf mhp mcl mck mba mct x4 x5 x6 x7 x8 mst x9 x10 x11 x12 ex_1 mrs x13 x14 x15 x16 mwr x17 ((pt_vp fs lv mct (2 ^ pb) ZZ.2.2.2.2.1 hv (hc j) mct 1 ZZ.2.1 ZZ.2.2.1 ZZ.2.2.2.1 ZZ.2.2.2.2.1 ZZ.2.2.2.2.2.1 ZZ.2.2.2.2.2.2.1 ZZ.2.2.2.2.2.2.2).2.1), ar_n cI x4 33 fs, ar_i cI x6 264 fl, ar_b cZ x7 33 lb, ar_n cI x11 33 hc, ar_i cI x12 6400 hh]) (ws' := fun ex_1 : Nat => [mo_c o mth mty x0 mat mfr mto mgd mrd x1 x2 x3 mhf mhp mcl mck mba mct x4 x5 x6 x7 x8 mst x9 x10 x11 x12 ex_1 mrs x13 x14 x15 x16 mwr x17 ((pt_vp fs lv mct (2 ^ pb) ZZ.2.2.2.2.1 hv (hc j) mct 1 ZZ.2.1 ZZ.2.2.1 ZZ.2.2.2.1 ZZ.2.2.2.2.1 ZZ.2.2.2.2.2.1 ZZ.2.2.2.2.2.2.1 ZZ.2.2.2.2.2.2.2).2.1), ar_n cI x4 33 fs, ar_n cI x5 33 fz, ar_i cI x6 264 fl, ar_b cZ x7 33 lb, ar_n cI x11 33 hc, ar_i cI x12 6400 hh]) (va_runV (As := [.int (nI j)]) (rest := []) ⟨hx, hb, hml, hown, hts⟩ (ct_Mo_followsPartners l D cI cZ _ o mth mty x0 mat mfr mto mgd mrd x1 x2 x3 mhf mhp mcl mck mba mct x4 x5 x6 x7 x8 mst x9 x10 x11 x12 ZZ.2.2.2.2.1 mrs x13 x14 x15 x16 mwr x17 ZZ.2.1 fs fl lb hc hh ZZ.2.2.2.2.2.2.1 ZZ.2.2.2.2.2.2.2 j lv qb pb ZZ.2.2.1 ZZ.2.2.2.1 ZZ.2.2.2.2.1 ZZ.2.2.2.2.2.1 hv (hct) (h16) (hlb) (hj1) (hj2) (hj3) (hc4) (hhv) (hft) (by omega) ((hlit (by omega)).1) ((hlit (by omega)).2.1) ((hlit (by omega)).2.2)) (cwV 1 hts (kx_gV wd_1036 wd_1038 (kx_sel (q := (yn_Mo_followsPartners, 36)) (List.mem_append_right _ (List.mem_append_right _ (List.mem_of_getElem? (i := 7) rfl)))) wd_9 wd_1039) rfl rfl rfl ⟨rfl, yd_Mo_followsPartners⟩ ⟨Nat.le_of_ble_eq_true rfl, Nat.le_of_ble_eq_true rfl⟩) (kp_V (q0 := 0) (ci := 10) hP hD hK hN [0, 1, 3, 4, 5, 6] rfl rfl rfl rfl rfl) rfl rfl hl.1 rfl (lv_room (Nat.le_of_ble_eq_true rfl)) dc_Mo_isGood_40 ⟨Nat.le_of_ble_eq_true rfl, Nat.le_of_ble_eq_true rfl⟩) hP hD hS hA [0, 1, 3, 4, 5, 6] [2] [1, 2, 0, 3, 4, 5, 6] rfl rfl rfl (by decide) (fun _ => rfl) rfl (fun ex_1 H locs hP hD hS => ?_)
      have hvx : (pt_vp fs lv mct (2 ^ pb) ZZ.2.2.2.2.1 hv (hc j) mct 1 ZZ.2.1 ZZ.2.2.1 ZZ.2.2.2.1 ZZ.2.2.2.2.1 ZZ.2.2.2.2.2.1 ZZ.2.2.2.2.2.2.1 ZZ.2.2.2.2.2.2.2).2.1 ≤ hc j := vp_nh hct hhv mct 1 ZZ.2.1 ZZ.2.2.1 ZZ.2.2.2.1 ZZ.2.2.2.2.1 ZZ.2.2.2.2.2.1 ZZ.2.2.2.2.2.2.1 ZZ.2.2.2.2.2.2.2 (by omega) (by omega) (by omega)
      generalize hYe : pt_vp fs lv mct (2 ^ pb) ZZ.2.2.2.2.1 hv (hc j) mct 1 ZZ.2.1 ZZ.2.2.1 ZZ.2.2.2.1 ZZ.2.2.2.2.1 ZZ.2.2.2.2.2.1 ZZ.2.2.2.2.2.2.1 ZZ.2.2.2.2.2.2.2 = YY at hP hD hvx ⊢
      refine kb_if_eq hx hb dc_Mo_isGood_43 rfl (fun hc43 => ?_) (fun hc43 => ?_)
      · have hG : pt_good fs lv mct (fz j) pb (fs j) hv (hc j) rs im = (false, YY.2) := by
          rw [pt_good, hZe]; dsimp only; rw [if_neg (by rw [hr1.1]; decide), if_neg (by rw [hr1.2]; decide), if_neg (by omega), hYe, if_pos hc43]
        refine lv_iconst (v := nI 0) hx hb dc_Mo_isGood_50 (by decide +kernel) ?_
        refine lv_istore_n (lv' := [(2, .int (nI 0)), (0, .ref o), (1, .int (nI j))]) hx hb dc_Mo_isGood_51 rfl hl (by decide) rfl (fun ls hl => ?_)
        refine lv_iload_n hx hb dc_Mo_isGood_52 rfl (lv_at hl 0 rfl) ?_
        refine lv_iconst (v := nI 2) hx hb dc_Mo_isGood_53 (by decide +kernel) ?_
        refine kn_icmp_ne hx hb (by omega) (by omega) dc_Mo_isGood_54 rfl (fun hc54 => ?_) (fun hc54 => ?_)
        · refine lv_iconst (v := nI 0) hx hb dc_Mo_isGood_74 (by decide +kernel) ?_
          refine kn_top (y := kb_i false) (by decide +kernel) ?_
          exact ke_zret (x := ex_1) hx hb hr hlocks hP hD hS dc_Mo_isGood_75 (by rw [hG]) (by rw [hG])
        · exact absurd hc54 (by decide)
      · have hG : pt_good fs lv mct (fz j) pb (fs j) hv (hc j) rs im = (decide (YY.2.1 = hc j), YY.2) := by
          rw [pt_good, hZe]; dsimp only; rw [if_neg (by rw [hr1.1]; decide), if_neg (by rw [hr1.2]; decide), if_neg (by omega), hYe, if_neg (by rw [hc43]; decide)]
        refine lv_iconst (v := nI 2) hx hb dc_Mo_isGood_46 (by decide +kernel) ?_
        refine lv_goto hx hb dc_Mo_isGood_47 rfl ?_
        refine lv_istore_n (lv' := [(2, .int (nI 2)), (0, .ref o), (1, .int (nI j))]) hx hb dc_Mo_isGood_51 rfl hl (by decide) rfl (fun ls hl => ?_)
        refine lv_iload_n hx hb dc_Mo_isGood_52 rfl (lv_at hl 0 rfl) ?_
        refine lv_iconst (v := nI 2) hx hb dc_Mo_isGood_53 (by decide +kernel) ?_
        refine kn_icmp_ne hx hb (by omega) (by omega) dc_Mo_isGood_54 rfl (fun hc54 => ?_) (fun hc54 => ?_)
        · exact absurd rfl hc54
        · refine lv_aload_n hx hb dc_Mo_isGood_57 rfl (lv_at hl 1 rfl) ?_
          refine va_get (ci := 10) (v := .int (nI YY.2.1)) (C := rn_Mo) (T := fd_Mo) (N := 36) hx hb hts in_Mo hown hK hP 0 rfl rfl 35 (by decide) (hts _ wd_781) (fun _ h9 => h9) rfl dc_Mo_isGood_58 ?_
          refine lv_aload_n hx hb dc_Mo_isGood_61 rfl (lv_at hl 1 rfl) ?_
          refine va_get (ci := 10) (v := .ref x11) (C := rn_Mo) (T := fd_Mo) (N := 36) hx hb hts in_Mo hown hK hP 0 rfl rfl 25 (by decide) (hts _ wd_771) (fun _ h9 => h9) rfl dc_Mo_isGood_62 ?_
          refine lv_iload_n hx hb dc_Mo_isGood_65 rfl (lv_at hl 2 rfl) ?_
          refine ka_nald (t := hc) hx hb hK hP 5 0 rfl rfl (j := j) (by omega) (by omega) dc_Mo_isGood_66 ?_
          refine kn_icmp_ne hx hb (by omega) (by omega) dc_Mo_isGood_67 rfl (fun hc67 => ?_) (fun hc67 => ?_)
          · refine lv_iconst (v := nI 0) hx hb dc_Mo_isGood_74 (by decide +kernel) ?_
            refine kn_top (y := kb_i false) (by decide +kernel) ?_
            exact ke_zret (x := ex_1) hx hb hr hlocks hP hD hS dc_Mo_isGood_75 (by rw [hG]; exact (decide_eq_false hc67).symm) (by rw [hG])
          · refine lv_iconst (v := nI 1) hx hb dc_Mo_isGood_70 (by decide +kernel) ?_
            refine lv_goto hx hb dc_Mo_isGood_71 rfl ?_
            refine kn_top (y := kb_i true) (by decide +kernel) ?_
            exact ke_zret (x := ex_1) hx hb hr hlocks hP hD hS dc_Mo_isGood_75 (by rw [hG]; exact (decide_eq_true hc67).symm) (by rw [hG])

set_option maxHeartbeats 4000000 in
set_option maxRecDepth 100000 in
theorem ct_Mo_verify (l : Launch) (D : va_G) (cI cZ : ClassId) (sz : Nat) (o : Nat) (mth : Nat) (mty : Nat) (x0 : Nat) (mat : Nat) (mfr : Nat) (mto : Nat) (mgd : Bool) (mrd : Nat) (x1 : Nat) (x2 : Nat) (x3 : Nat) (mhf : Bool) (mhp : Bool) (mcl : Bool) (mck : Bool) (mba : Nat) (mct : Nat) (x4 : Nat) (x5 : Nat) (x6 : Nat) (x7 : Nat) (x8 : Nat) (mst : Nat) (x9 : Nat) (x10 : Nat) (x11 : Nat) (x12 : Nat) (mtr : Nat) (mrs : Nat) (x13 : Nat) (x14 : Nat) (x15 : Nat) (x16 : Nat) (mwr : Nat) (x17 : Nat) (mfo : Nat) (fs : Nat → Nat) (fz : Nat → Nat) (fl : Nat → Int32) (lb : Nat → Bool) (kb : Nat → Bool) (ad : Nat → Bool) (nu : Nat → Nat) (hc : Nat → Nat) (hh : Nat → Int32) (rs : Nat → Nat) (im : Nat → Nat) (mk : Nat) (ft : Nat → Nat) (fc : Nat → Nat) (fr : Nat → Int32) (gx : Nat) (gc : Bool) (gn : Nat) (gt : Nat) (gf : Nat) (qb : Nat → Nat) (pb : Nat → Nat) (hck : mck = true) (hct : mct ≤ 32) (hba : mba ≤ mct) (hbt : mct ≤ mba + 16) (h16 : ∀ j, fs j < 65536) (hz : ∀ i, 1 ≤ i → i ≤ mct → fz i ≤ 8) (hst : mst ≤ 16) (hnu : ∀ i, 1 ≤ i → i ≤ mst → nu i ≤ mct) (hadd : ∀ i, 1 ≤ i → i ≤ mst → ad i = true → mba < nu i) (hinc : ∀ i, 1 ≤ i → i ≤ mst → ad i = true → ∀ a, 1 ≤ a → a < i → nu a < nu i) (hlit : ∀ j, 1 ≤ j → j ≤ mct → 1 ≤ fz j → qb j < 16 ∧ fl (j * 8) = pt_lit (qb j) ∧ (qb j + 8) % 16 = pb j) (hkb : ∀ j, 1 ≤ j → j ≤ mct → kb j = mk.testBit j) (hc4 : ∀ j, hc j ≤ 400) (hhc : ∀ j, mba < j → j ≤ mct → pt_hc fc j = hc j) (hhv : ∀ j k, mba < j → j ≤ mct → pt_hv ft fc fr j k = if k < hc j then hh (400 * (j - mba - 1) + k) else 0) : Met l yn_Mo_verify (Cond.code yn_Mo_verify bc_Mo_verify 3 (some .int) :: kx_all) ({ frames := 5, cells := 0, slots := 0, locals := 113 } : Room) (kp [.ref o] D cI cZ [mo_c o mth mty x0 mat mfr mto mgd mrd x1 x2 x3 mhf mhp mcl mck mba mct x4 x5 x6 x7 x8 mst x9 x10 x11 x12 mtr mrs x13 x14 x15 x16 mwr x17 mfo, ar_n cI x4 33 fs, ar_n cI x5 33 fz, ar_i cI x6 264 fl, ar_b cZ x7 33 lb, ar_b cZ x8 33 kb, ar_b cZ x9 17 ad, ar_n cI x10 17 nu, ar_n cI x11 33 hc, ar_i cI x12 6400 hh] sz) (kw_e (some (.int (nI ((pt_fb fs fz pb mct (fun i => !ad i) nu mk ft fc fr mst 1 (2 ^ (mba + 1) - 2) gx gc gn gt gf rs im).1)))) D kc_l (fun ex : Nat × Nat × (Nat → Bool) => [mo_c o 0 mty x0 mat mfr mto mgd mrd x1 x2 x3 mhf mhp mcl mck mba mct x4 x5 x6 x7 x8 mst x9 x10 x11 x12 ex.1 mrs x13 x14 x15 x16 mwr x17 ex.2.1, ar_n cI x4 33 fs, ar_n cI x5 33 fz, ar_i cI x6 264 fl, ar_b cZ x7 33 ex.2.2, ar_b cZ x8 33 kb, ar_b cZ x9 17 ad, ar_n cI x10 17 nu, ar_n cI x11 33 hc, ar_i cI x12 6400 hh]) (va_A [mo_c o mth mty x0 mat mfr mto mgd mrd x1 x2 x3 mhf mhp mcl mck mba mct x4 x5 x6 x7 x8 mst x9 x10 x11 x12 mtr mrs x13 x14 x15 x16 mwr x17 mfo, ar_n cI x4 33 fs, ar_n cI x5 33 fz, ar_i cI x6 264 fl, ar_b cZ x7 33 lb, ar_b cZ x8 33 kb, ar_b cZ x9 17 ad, ar_n cI x10 17 nu, ar_n cI x11 33 hc, ar_i cI x12 6400 hh] sz)) 0 0 (va_A [mo_c o mth mty x0 mat mfr mto mgd mrd x1 x2 x3 mhf mhp mcl mck mba mct x4 x5 x6 x7 x8 mst x9 x10 x11 x12 mtr mrs x13 x14 x15 x16 mwr x17 mfo, ar_n cI x4 33 fs, ar_n cI x5 33 fz, ar_i cI x6 264 fl, ar_b cZ x7 33 lb, ar_b cZ x8 33 kb, ar_b cZ x9 17 ad, ar_n cI x10 17 nu, ar_n cI x11 33 hc, ar_i cI x12 6400 hh] sz) := by
  refine kx_metE (by decide) (Nat.le_of_ble_eq_true rfl) ?_
  intro p e s m below meth c ls A hx hb hr hml hts hown hlocks hin hA hP hK hD hN hl hS
  have hown : s.vm.findClass rn_Mo = some m.cls := hown
  have hl : lv_has ls 3 [(0, .ref o)] := hl
  refine lv_aload_n hx hb dc_Mo_verify_0 rfl (lv_at hl 0 rfl) ?_
  refine lv_iconst (v := nI 0) hx hb dc_Mo_verify_1 (by decide +kernel) ?_
  refine va_put (ci := 10) (v := .int (nI 0)) (ty := .int) (C := rn_Mo) (T := fd_Mo) (N := 36) hx hb hts in_Mo ty_Mo tk_Mo nm_Mo hown hK hP hD hS 0 rfl rfl 0 (by decide) (hts _ wd_746) (fun _ h9 => h9) rfl (by decide +kernel) rfl rfl (Nat.le_of_ble_eq_true rfl) dc_Mo_verify_2 (fun H locs hP hD hS => ?_)
  have hP : va_P D kc_l [mo_c o 0 mty x0 mat mfr mto mgd mrd x1 x2 x3 mhf mhp mcl mck mba mct x4 x5 x6 x7 x8 mst x9 x10 x11 x12 mtr mrs x13 x14 x15 x16 mwr x17 mfo, ar_n cI x4 33 fs, ar_n cI x5 33 fz, ar_i cI x6 264 fl, ar_b cZ x7 33 lb, ar_b cZ x8 33 kb, ar_b cZ x9 17 ad, ar_n cI x10 17 nu, ar_n cI x11 33 hc, ar_i cI x12 6400 hh] H := hP
  have hD : va_D A [mo_c o 0 mty x0 mat mfr mto mgd mrd x1 x2 x3 mhf mhp mcl mck mba mct x4 x5 x6 x7 x8 mst x9 x10 x11 x12 mtr mrs x13 x14 x15 x16 mwr x17 mfo, ar_n cI x4 33 fs, ar_n cI x5 33 fz, ar_i cI x6 264 fl, ar_b cZ x7 33 lb, ar_b cZ x8 33 kb, ar_b cZ x9 17 ad, ar_n cI x10 17 nu, ar_n cI x11 33 hc, ar_i cI x12 6400 hh] := hD
  refine lv_aload_n hx hb dc_Mo_verify_5 rfl (lv_at hl 0 rfl) ?_
  refine va_get (ci := 10) (v := .int (kb_i mck)) (C := rn_Mo) (T := fd_Mo) (N := 36) hx hb hts in_Mo hown hK hP 0 rfl rfl 14 (by decide) (hts _ wd_760) (fun _ h9 => h9) rfl dc_Mo_verify_6 ?_
  refine kb_if_ne hx hb dc_Mo_verify_9 rfl (fun hc9 => ?_) (fun hc9 => ?_)
  · refine lv_aload_n hx hb dc_Mo_verify_18 rfl (lv_at hl 0 rfl) ?_
    refine kw_call0 (wr := [ar_n cI x4 33 fs, ar_n cI x5 33 fz, ar_i cI x6 264 fl, ar_b cZ x8 33 kb, ar_b cZ x9 17 ad, ar_n cI x10 17 nu, ar_n cI x11 33 hc, ar_i cI x12 6400 hh]) (ws' := [mo_c o 0 mty x0 mat mfr mto mgd mrd x1 x2 x3 mhf mhp mcl mck mba mct x4 x5 x6 x7 x8 mst x9 x10 x11 x12 mtr mrs x13 x14 x15 x16 mwr x17 mfo, ar_n cI x4 33 fs, ar_n cI x5 33 fz, ar_i cI x6 264 fl, ar_b cZ x7 33 (pt_fst lb mba 33), ar_b cZ x8 33 kb, ar_b cZ x9 17 ad, ar_n cI x10 17 nu, ar_n cI x11 33 hc, ar_i cI x12 6400 hh]) (va_runV (As := []) (rest := []) ⟨hx, hb, hml, hown, hts⟩ (ct_Mo_first l D cI cZ _ o 0 mty x0 mat mfr mto mgd mrd x1 x2 x3 mhf mhp mcl mck mba mct x4 x5 x6 x7 x8 mst x9 x10 x11 x12 mtr mrs x13 x14 x15 x16 mwr x17 mfo lb (by omega)) (cwV 0 hts (kx_gV wd_930 wd_932 (kx_sel (q := (yn_Mo_first, 36)) (List.mem_append_right _ (List.mem_append_left _ (List.mem_of_getElem? (i := 8) rfl)))) wd_9 wd_933) rfl rfl rfl ⟨rfl, yd_Mo_first⟩ ⟨Nat.le_of_ble_eq_true rfl, Nat.le_of_ble_eq_true rfl⟩) (kp_V (q0 := 0) (ci := 10) hP hD hK hN [0, 4] rfl rfl rfl rfl rfl) rfl rfl hl.1 rfl (lv_room (Nat.le_of_ble_eq_true rfl)) dc_Mo_verify_19 ⟨Nat.le_of_ble_eq_true rfl, Nat.le_of_ble_eq_true rfl⟩) hP hD hS hA [0, 4] [1, 2, 3, 5, 6, 7, 8, 9] [8, 0, 1, 2, 9, 3, 4, 5, 6, 7] rfl rfl rfl (by decide) rfl rfl (fun H locs hP hD hS => ?_)
    refine lv_iconst (v := nI 1) hx hb dc_Mo_verify_22 (by decide +kernel) ?_
    refine lv_istore_n (lv' := [(1, .int (nI 1)), (0, .ref o)]) hx hb dc_Mo_verify_23 rfl hl (by decide) rfl (fun ls hl => ?_)
    have lp_24 : ∀ (K : Nat) (i : Nat) (lk : Nat) (lb1 : Nat → Bool) (tr1 : Nat) (fo1 : Nat) (nk : Nat) (ck1 : Bool) (n1 : Nat) (t1 : Nat) (f1 : Nat) (rs1 : Nat → Nat) (im1 : Nat → Nat) (H : Heap) (locs : List Loc) (ls : Array Slot), mst + 1 - i < K → va_P D kc_l [mo_c o 0 mty x0 mat mfr mto mgd mrd x1 x2 x3 mhf mhp mcl mck mba mct x4 x5 x6 x7 x8 mst x9 x10 x11 x12 tr1 mrs x13 x14 x15 x16 mwr x17 fo1, ar_n cI x4 33 fs, ar_n cI x5 33 fz, ar_i cI x6 264 fl, ar_b cZ x7 33 lb1, ar_b cZ x8 33 kb, ar_b cZ x9 17 ad, ar_n cI x10 17 nu, ar_n cI x11 33 hc, ar_i cI x12 6400 hh] H → va_D A [mo_c o 0 mty x0 mat mfr mto mgd mrd x1 x2 x3 mhf mhp mcl mck mba mct x4 x5 x6 x7 x8 mst x9 x10 x11 x12 tr1 mrs x13 x14 x15 x16 mwr x17 fo1, ar_n cI x4 33 fs, ar_n cI x5 33 fz, ar_i cI x6 264 fl, ar_b cZ x7 33 lb1, ar_b cZ x8 33 kb, ar_b cZ x9 17 ad, ar_n cI x10 17 nu, ar_n cI x11 33 hc, ar_i cI x12 6400 hh] → va_S A s.heap H locs → lv_has ls 3 [(1, .int (nI i)), (0, .ref o)] → (pt_fb fs fz pb mct (fun i => !ad i) nu mk ft fc fr (mst + 1 - i) i lk nk ck1 n1 t1 f1 rs1 im1 = pt_fb fs fz pb mct (fun i => !ad i) nu mk ft fc fr mst 1 (2 ^ (mba + 1) - 2) gx gc gn gt gf rs im) → (1 ≤ i ∧ i ≤ mst + 1) → (∀ j, 1 ≤ j → j ≤ mct → lb1 j = lk.testBit j) → (∀ j, 1 ≤ j → lk.testBit j = true → j ≤ mba ∨ ∃ a, 1 ≤ a ∧ a < i ∧ nu a = j) → W p l e ({ frames := 5, cells := 0, slots := 0, locals := 113 } : Room) s m ([.ref o] : List Value).toArray below meth c H locs 0 0 (MQ below (kw_e (some (.int (nI ((pt_fb fs fz pb mct (fun i => !ad i) nu mk ft fc fr mst 1 (2 ^ (mba + 1) - 2) gx gc gn gt gf rs im).1)))) D kc_l (fun ex : Nat × Nat × (Nat → Bool) => [mo_c o 0 mty x0 mat mfr mto mgd mrd x1 x2 x3 mhf mhp mcl mck mba mct x4 x5 x6 x7 x8 mst x9 x10 x11 x12 ex.1 mrs x13 x14 x15 x16 mwr x17 ex.2.1, ar_n cI x4 33 fs, ar_n cI x5 33 fz, ar_i cI x6 264 fl, ar_b cZ x7 33 ex.2.2, ar_b cZ x8 33 kb, ar_b cZ x9 17 ad, ar_n cI x10 17 nu, ar_n cI x11 33 hc, ar_i cI x12 6400 hh]) A) ([.ref o] : List Value).toArray s 0 0 A) (F0 m 24 ls []) := by
      intro K
      induction K with
      | zero =>
        intro i lk lb1 tr1 fo1 nk ck1 n1 t1 f1 rs1 im1 H locs ls hk
        exact absurd hk (Nat.not_lt_zero _)
      | succ K ih_24 =>
        intro i lk lb1 tr1 fo1 nk ck1 n1 t1 f1 rs1 im1 H locs ls hk hP hD hS hl h1 h2 hlb1 hlt
        refine lv_iload_n hx hb dc_Mo_verify_24 rfl (lv_at hl 0 rfl) ?_
        refine lv_aload_n hx hb dc_Mo_verify_25 rfl (lv_at hl 1 rfl) ?_
        refine va_get (ci := 10) (v := .int (nI mst)) (C := rn_Mo) (T := fd_Mo) (N := 36) hx hb hts in_Mo hown hK hP 0 rfl rfl 22 (by decide) (hts _ wd_768) (fun _ h9 => h9) rfl dc_Mo_verify_26 ?_
        refine kn_icmp_gt hx hb (by omega) (by omega) dc_Mo_verify_29 rfl (fun hc29 => ?_) (fun hc29 => ?_)
        · refine lv_iconst (v := nI 0) hx hb dc_Mo_verify_102 (by decide +kernel) ?_
          exact ke_iret (x := (tr1, fo1, lb1)) hx hb hr hlocks hP hD hS dc_Mo_verify_103 (by rw [← h1, show mst + 1 - i = 0 by omega, pt_fb]) (rfl)
        · refine lv_aload_n hx hb dc_Mo_verify_32 rfl (lv_at hl 1 rfl) ?_
          refine va_get (ci := 10) (v := .ref x10) (C := rn_Mo) (T := fd_Mo) (N := 36) hx hb hts in_Mo hown hK hP 0 rfl rfl 24 (by decide) (hts _ wd_770) (fun _ h9 => h9) rfl dc_Mo_verify_33 ?_
          refine lv_iload_n hx hb dc_Mo_verify_36 rfl (lv_at hl 0 rfl) ?_
          refine ka_nald (t := nu) hx hb hK hP 7 0 rfl rfl (j := i) (by omega) (by omega) dc_Mo_verify_37 ?_
          refine lv_istore_n (lv' := [(2, .int (nI (nu i))), (1, .int (nI i)), (0, .ref o)]) hx hb dc_Mo_verify_38 rfl hl (by decide) rfl (fun ls hl => ?_)
          refine lv_aload_n hx hb dc_Mo_verify_39 rfl (lv_at hl 2 rfl) ?_
          refine va_get (ci := 10) (v := .ref x9) (C := rn_Mo) (T := fd_Mo) (N := 36) hx hb hts in_Mo hown hK hP 0 rfl rfl 23 (by decide) (hts _ wd_769) (fun _ h9 => h9) rfl dc_Mo_verify_40 ?_
          refine lv_iload_n hx hb dc_Mo_verify_43 rfl (lv_at hl 1 rfl) ?_
          refine ka_bald (t := ad) hx hb hK hP 6 1 rfl rfl (j := i) (by omega) (by omega) dc_Mo_verify_44 ?_
          refine kb_if_eq hx hb dc_Mo_verify_45 rfl (fun hc45 => ?_) (fun hc45 => ?_)
          · have hst : pt_fb fs fz pb mct (fun i => !ad i) nu mk ft fc fr (mst + 1 - i) i lk nk ck1 n1 t1 f1 rs1 im1 = pt_fb fs fz pb mct (fun i => !ad i) nu mk ft fc fr (mst + 1 - (i + 1)) (i + 1) (nb_d lk (2 ^ nu i)) nk ck1 n1 t1 f1 rs1 im1 := by
              rw [show mst + 1 - i = (mst + 1 - (i + 1)) + 1 by omega, pt_fb, if_pos (by rw [hc45]; rfl)]
            have hlb9 : ∀ j, 1 ≤ j → j ≤ mct → va_up lb1 (nu i) false j = (nb_d lk (2 ^ nu i)).testBit j := fun j h8 h9 => lv_del (hlb1 j h8 h9)
            have hlt9 : ∀ j, 1 ≤ j → (nb_d lk (2 ^ nu i)).testBit j = true → j ≤ mba ∨ ∃ a, 1 ≤ a ∧ a < i + 1 ∧ nu a = j := fun j h7 h8 => by
              rw [nb_d_bit, Bool.and_eq_true] at h8
              exact (hlt j h7 h8.1).elim Or.inl (fun ⟨a, q1, q2, q3⟩ => Or.inr ⟨a, q1, by omega, q3⟩)
            refine lv_aload_n hx hb dc_Mo_verify_67 rfl (lv_at hl 2 rfl) ?_
            refine va_get (ci := 10) (v := .ref x7) (C := rn_Mo) (T := fd_Mo) (N := 36) hx hb hts in_Mo hown hK hP 0 rfl rfl 20 (by decide) (hts _ wd_766) (fun _ h9 => h9) rfl dc_Mo_verify_68 ?_
            refine lv_iload_n hx hb dc_Mo_verify_71 rfl (lv_at hl 0 rfl) ?_
            refine lv_aload_n hx hb dc_Mo_verify_72 rfl (lv_at hl 2 rfl) ?_
            refine va_get (ci := 10) (v := .ref x9) (C := rn_Mo) (T := fd_Mo) (N := 36) hx hb hts in_Mo hown hK hP 0 rfl rfl 23 (by decide) (hts _ wd_769) (fun _ h9 => h9) rfl dc_Mo_verify_73 ?_
            refine lv_iload_n hx hb dc_Mo_verify_76 rfl (lv_at hl 1 rfl) ?_
            refine ka_bald (t := ad) hx hb hK hP 6 1 rfl rfl (j := i) (by omega) (by omega) dc_Mo_verify_77 ?_
            refine kb_if_eq hx hb dc_Mo_verify_78 rfl (fun hc78 => ?_) (fun hc78 => ?_)
            · refine lv_iconst (v := nI 0) hx hb dc_Mo_verify_94 (by decide +kernel) ?_
              refine kn_top (y := kb_i false) (by decide +kernel) ?_
              refine ka_bast (t := lb1) hx hb hK hP hD hS 4 1 rfl rfl (j := nu i) (by have := hnu i (by omega) (by omega); omega) (by omega) dc_Mo_verify_95 (ws' := [mo_c o 0 mty x0 mat mfr mto mgd mrd x1 x2 x3 mhf mhp mcl mck mba mct x4 x5 x6 x7 x8 mst x9 x10 x11 x12 tr1 mrs x13 x14 x15 x16 mwr x17 fo1, ar_n cI x4 33 fs, ar_n cI x5 33 fz, ar_i cI x6 264 fl, ar_b cZ x7 33 (va_up lb1 (nu i) false), ar_b cZ x8 33 kb, ar_b cZ x9 17 ad, ar_n cI x10 17 nu, ar_n cI x11 33 hc, ar_i cI x12 6400 hh]) rfl (fun H locs hP hD hS => ?_)
              refine lv_iinc (k := 1) (v := nI (i + 1)) (lv' := [(1, .int (nI (i + 1))), (2, .int (nI (nu i))), (0, .ref o)]) hx hb dc_Mo_verify_96 hl rfl (nI_1 _) (by decide) rfl (fun ls hl => ?_)
              refine lv_goto hx hb dc_Mo_verify_99 rfl ?_
              have hl := lv_sub (l' := [(1, .int (nI (i + 1))), (0, .ref o)]) hl [0, 2] rfl
              exact ih_24 _ _ _ _ _ _ _ _ _ _ _ _ _ _ _ (by omega) hP hD hS hl (by rw [← h1, hst]) (⟨by omega, by omega⟩) (hlb9) (hlt9)
            · exact absurd hc78 (by rw [hc45]; decide)
          · refine lv_aload_n hx hb dc_Mo_verify_48 rfl (lv_at hl 2 rfl) ?_
            refine va_get (ci := 10) (v := .ref x8) (C := rn_Mo) (T := fd_Mo) (N := 36) hx hb hts in_Mo hown hK hP 0 rfl rfl 21 (by decide) (hts _ wd_767) (fun _ h9 => h9) rfl dc_Mo_verify_49 ?_
            refine lv_iload_n hx hb dc_Mo_verify_52 rfl (lv_at hl 0 rfl) ?_
            refine ka_bald (t := kb) hx hb hK hP 5 1 rfl rfl (j := nu i) (by have := hnu i (by omega) (by omega); omega) (by omega) dc_Mo_verify_53 ?_
            refine kb_if_eq hx hb dc_Mo_verify_54 rfl (fun hc54 => ?_) (fun hc54 => ?_)
            · have hmk : mk.testBit (nu i) = false := by rw [← hkb (nu i) (by have := hadd i (by omega) (by omega) hc45; omega) (hnu i (by omega) (by omega))]; exact hc54
              have hst : pt_fb fs fz pb mct (fun i => !ad i) nu mk ft fc fr (mst + 1 - i) i lk nk ck1 n1 t1 f1 rs1 im1 = pt_fb fs fz pb mct (fun i => !ad i) nu mk ft fc fr (mst + 1 - (i + 1)) (i + 1) lk nk ck1 n1 t1 f1 rs1 im1 := by
                rw [show mst + 1 - i = (mst + 1 - (i + 1)) + 1 by omega, pt_fb, if_neg (by rw [hc45]; decide), if_pos hmk]
              have hln : lk.testBit (nu i) = false := by
                cases hq : lk.testBit (nu i) with
                | false => rfl
                | true =>
                  exfalso
                  rcases hlt (nu i) (by have := hadd i (by omega) (by omega) hc45; omega) hq with q | ⟨a, q1, q2, q3⟩
                  · have := hadd i (by omega) (by omega) hc45; omega
                  · have := hinc i (by omega) (by omega) hc45 a q1 q2; omega
              have hlb9 : ∀ j, 1 ≤ j → j ≤ mct → va_up lb1 (nu i) false j = lk.testBit j := fun j h8 h9 => by
                unfold va_up
                split
                · rename_i q; rw [q, hln]
                · exact hlb1 j h8 h9
              have hlt9 : ∀ j, 1 ≤ j → lk.testBit j = true → j ≤ mba ∨ ∃ a, 1 ≤ a ∧ a < i + 1 ∧ nu a = j := fun j h7 h8 => (hlt j h7 h8).elim Or.inl (fun ⟨a, q1, q2, q3⟩ => Or.inr ⟨a, q1, by omega, q3⟩)
              refine lv_aload_n hx hb dc_Mo_verify_67 rfl (lv_at hl 2 rfl) ?_
              refine va_get (ci := 10) (v := .ref x7) (C := rn_Mo) (T := fd_Mo) (N := 36) hx hb hts in_Mo hown hK hP 0 rfl rfl 20 (by decide) (hts _ wd_766) (fun _ h9 => h9) rfl dc_Mo_verify_68 ?_
              refine lv_iload_n hx hb dc_Mo_verify_71 rfl (lv_at hl 0 rfl) ?_
              refine lv_aload_n hx hb dc_Mo_verify_72 rfl (lv_at hl 2 rfl) ?_
              refine va_get (ci := 10) (v := .ref x9) (C := rn_Mo) (T := fd_Mo) (N := 36) hx hb hts in_Mo hown hK hP 0 rfl rfl 23 (by decide) (hts _ wd_769) (fun _ h9 => h9) rfl dc_Mo_verify_73 ?_
              refine lv_iload_n hx hb dc_Mo_verify_76 rfl (lv_at hl 1 rfl) ?_
              refine ka_bald (t := ad) hx hb hK hP 6 1 rfl rfl (j := i) (by omega) (by omega) dc_Mo_verify_77 ?_
              refine kb_if_eq hx hb dc_Mo_verify_78 rfl (fun hc78 => ?_) (fun hc78 => ?_)
              · exact absurd hc78 (by rw [hc45]; decide)
              · refine lv_aload_n hx hb dc_Mo_verify_81 rfl (lv_at hl 2 rfl) ?_
                refine va_get (ci := 10) (v := .ref x8) (C := rn_Mo) (T := fd_Mo) (N := 36) hx hb hts in_Mo hown hK hP 0 rfl rfl 21 (by decide) (hts _ wd_767) (fun _ h9 => h9) rfl dc_Mo_verify_82 ?_
                refine lv_iload_n hx hb dc_Mo_verify_85 rfl (lv_at hl 0 rfl) ?_
                refine ka_bald (t := kb) hx hb hK hP 5 1 rfl rfl (j := nu i) (by have := hnu i (by omega) (by omega); omega) (by omega) dc_Mo_verify_86 ?_
                refine kb_if_eq hx hb dc_Mo_verify_87 rfl (fun hc87 => ?_) (fun hc87 => ?_)
                · refine lv_iconst (v := nI 0) hx hb dc_Mo_verify_94 (by decide +kernel) ?_
                  refine kn_top (y := kb_i false) (by decide +kernel) ?_
                  refine ka_bast (t := lb1) hx hb hK hP hD hS 4 1 rfl rfl (j := nu i) (by have := hnu i (by omega) (by omega); omega) (by omega) dc_Mo_verify_95 (ws' := [mo_c o 0 mty x0 mat mfr mto mgd mrd x1 x2 x3 mhf mhp mcl mck mba mct x4 x5 x6 x7 x8 mst x9 x10 x11 x12 tr1 mrs x13 x14 x15 x16 mwr x17 fo1, ar_n cI x4 33 fs, ar_n cI x5 33 fz, ar_i cI x6 264 fl, ar_b cZ x7 33 (va_up lb1 (nu i) false), ar_b cZ x8 33 kb, ar_b cZ x9 17 ad, ar_n cI x10 17 nu, ar_n cI x11 33 hc, ar_i cI x12 6400 hh]) rfl (fun H locs hP hD hS => ?_)
                  refine lv_iinc (k := 1) (v := nI (i + 1)) (lv' := [(1, .int (nI (i + 1))), (2, .int (nI (nu i))), (0, .ref o)]) hx hb dc_Mo_verify_96 hl rfl (nI_1 _) (by decide) rfl (fun ls hl => ?_)
                  refine lv_goto hx hb dc_Mo_verify_99 rfl ?_
                  have hl := lv_sub (l' := [(1, .int (nI (i + 1))), (0, .ref o)]) hl [0, 2] rfl
                  exact ih_24 _ _ _ _ _ _ _ _ _ _ _ _ _ _ _ (by omega) hP hD hS hl (by rw [← h1, hst]) (⟨by omega, by omega⟩) (hlb9) (hlt9)
                · exact absurd hc87 (by rw [hc54]; decide)
            · have hmk : mk.testBit (nu i) = true := by rw [← hkb (nu i) (by have := hadd i (by omega) (by omega) hc45; omega) (hnu i (by omega) (by omega))]; exact hc54
              have hst : pt_fb fs fz pb mct (fun i => !ad i) nu mk ft fc fr (mst + 1 - i) i lk nk ck1 n1 t1 f1 rs1 im1 = (if (pt_good fs lk mct (fz (nu i)) (pb (nu i)) (fs (nu i)) (fun k => pt_hv ft fc fr (nu i) k) (pt_hc fc (nu i)) rs1 im1).1 = true then pt_fb fs fz pb mct (fun i => !ad i) nu mk ft fc fr (mst + 1 - (i + 1)) (i + 1) (lk ||| 2 ^ nu i) (pt_good fs lk mct (fz (nu i)) (pb (nu i)) (fs (nu i)) (fun k => pt_hv ft fc fr (nu i) k) (pt_hc fc (nu i)) rs1 im1).2.1 (pt_good fs lk mct (fz (nu i)) (pb (nu i)) (fs (nu i)) (fun k => pt_hv ft fc fr (nu i) k) (pt_hc fc (nu i)) rs1 im1).2.2.1 (pt_good fs lk mct (fz (nu i)) (pb (nu i)) (fs (nu i)) (fun k => pt_hv ft fc fr (nu i) k) (pt_hc fc (nu i)) rs1 im1).2.2.2.1 (pt_good fs lk mct (fz (nu i)) (pb (nu i)) (fs (nu i)) (fun k => pt_hv ft fc fr (nu i) k) (pt_hc fc (nu i)) rs1 im1).2.2.2.2.1 (pt_good fs lk mct (fz (nu i)) (pb (nu i)) (fs (nu i)) (fun k => pt_hv ft fc fr (nu i) k) (pt_hc fc (nu i)) rs1 im1).2.2.2.2.2.1 (pt_good fs lk mct (fz (nu i)) (pb (nu i)) (fs (nu i)) (fun k => pt_hv ft fc fr (nu i) k) (pt_hc fc (nu i)) rs1 im1).2.2.2.2.2.2.1 (pt_good fs lk mct (fz (nu i)) (pb (nu i)) (fs (nu i)) (fun k => pt_hv ft fc fr (nu i) k) (pt_hc fc (nu i)) rs1 im1).2.2.2.2.2.2.2 else (nu i, lk, (pt_good fs lk mct (fz (nu i)) (pb (nu i)) (fs (nu i)) (fun k => pt_hv ft fc fr (nu i) k) (pt_hc fc (nu i)) rs1 im1).2)) := by
                rw [show mst + 1 - i = (mst + 1 - (i + 1)) + 1 by omega, pt_fb, if_neg (by rw [hc45]; decide), if_neg (by rw [hmk]; decide)]
              rw [hhc (nu i) (hadd i (by omega) (by omega) hc45) (hnu i (by omega) (by omega))] at hst
              have hlb9 : ∀ j, 1 ≤ j → j ≤ mct → va_up lb1 (nu i) true j = (lk ||| 2 ^ nu i).testBit j := fun j h8 h9 => lv_add (hlb1 j h8 h9)
              have hlt9 : ∀ j, 1 ≤ j → (lk ||| 2 ^ nu i).testBit j = true → j ≤ mba ∨ ∃ a, 1 ≤ a ∧ a < i + 1 ∧ nu a = j := fun j h7 h8 => by
                rw [Nat.testBit_or, Bool.or_eq_true, Nat.testBit_two_pow] at h8
                rcases h8 with h8 | h8
                · exact (hlt j h7 h8).elim Or.inl (fun ⟨a, q1, q2, q3⟩ => Or.inr ⟨a, q1, by omega, q3⟩)
                · exact Or.inr ⟨i, by omega, by omega, of_decide_eq_true h8⟩
              refine lv_aload_n hx hb dc_Mo_verify_57 rfl (lv_at hl 2 rfl) ?_
              refine lv_iload_n hx hb dc_Mo_verify_58 rfl (lv_at hl 0 rfl) ?_
              refine kw_callE1 (wr := [ar_b cZ x8 33 kb, ar_b cZ x9 17 ad, ar_n cI x10 17 nu]) (w1 := fun ex_1 : Nat => [mo_c o 0 mty x0 mat mfr mto mgd mrd x1 x2 x3 mhf mhp mcl mck mba mct x4 x5 x6 x7 x8 mst x9 x10 x11 x12 ex_1 mrs x13 x14 x15 x16 mwr x17 ((pt_good fs lk mct (fz (nu i)) (pb (nu i)) (fs (nu i)) ((fun k => pt_hv ft fc fr (nu i) k)) (hc (nu i)) rs1 im1).2.1), ar_n cI x4 33 fs, ar_n cI x5 33 fz, ar_i cI x6 264 fl, ar_b cZ x7 33 lb1, ar_n cI x11 33 hc, ar_i cI x12 6400 hh]) (ws' := fun ex_1 : Nat => [mo_c o 0 mty x0 mat mfr mto mgd mrd x1 x2 x3 mhf mhp mcl mck mba mct x4 x5 x6 x7 x8 mst x9 x10 x11 x12 ex_1 mrs x13 x14 x15 x16 mwr x17 ((pt_good fs lk mct (fz (nu i)) (pb (nu i)) (fs (nu i)) ((fun k => pt_hv ft fc fr (nu i) k)) (hc (nu i)) rs1 im1).2.1), ar_n cI x4 33 fs, ar_n cI x5 33 fz, ar_i cI x6 264 fl, ar_b cZ x7 33 lb1, ar_b cZ x8 33 kb, ar_b cZ x9 17 ad, ar_n cI x10 17 nu, ar_n cI x11 33 hc, ar_i cI x12 6400 hh]) (va_runV (As := [.int (nI (nu i))]) (rest := []) ⟨hx, hb, hml, hown, hts⟩ (ct_Mo_isGood l D cI cZ _ o 0 mty x0 mat mfr mto mgd mrd x1 x2 x3 mhf mhp mcl mck mba mct x4 x5 x6 x7 x8 mst x9 x10 x11 x12 tr1 mrs x13 x14 x15 x16 mwr x17 fo1 fs fz fl lb1 hc hh rs1 im1 (nu i) lk (qb (nu i)) (pb (nu i)) ((fun k => pt_hv ft fc fr (nu i) k)) (hct) (h16) (hlb1) (hadd i (by omega) (by omega) hc45) (by have := hnu i (by omega) (by omega); omega) (by have := hnu i (by omega) (by omega); omega) (hc4 _) (fun k => hhv (nu i) k (hadd i (by omega) (by omega) hc45) (hnu i (by omega) (by omega))) (hz (nu i) (by have := hadd i (by omega) (by omega) hc45; omega) (hnu i (by omega) (by omega))) (hlit (nu i) (by have := hadd i (by omega) (by omega) hc45; omega) (hnu i (by omega) (by omega)))) (cwV 1 hts (kx_gV wd_1028 wd_1030 (kx_sel (q := (yn_Mo_isGood, 36)) (List.mem_append_right _ (List.mem_append_right _ (List.mem_of_getElem? (i := 5) rfl)))) wd_9 wd_1031) rfl rfl rfl ⟨rfl, yd_Mo_isGood⟩ ⟨Nat.le_of_ble_eq_true rfl, Nat.le_of_ble_eq_true rfl⟩) (kp_V (q0 := 0) (ci := 10) hP hD hK hN [0, 1, 2, 3, 4, 8, 9] rfl rfl rfl rfl rfl) rfl rfl hl.1 rfl (lv_room (Nat.le_of_ble_eq_true rfl)) dc_Mo_verify_59 ⟨Nat.le_of_ble_eq_true rfl, Nat.le_of_ble_eq_true rfl⟩) hP hD hS hA [0, 1, 2, 3, 4, 8, 9] [5, 6, 7] [3, 4, 5, 6, 7, 0, 1, 2, 8, 9] rfl rfl rfl (by decide) (fun _ => rfl) rfl (fun ex_1 H locs hP hD hS => ?_)
              generalize hGe : pt_good fs lk mct (fz (nu i)) (pb (nu i)) (fs (nu i)) (fun k => pt_hv ft fc fr (nu i) k) (hc (nu i)) rs1 im1 = GG at hP hD hst ⊢
              refine kb_if_ne hx hb dc_Mo_verify_62 rfl (fun hc62 => ?_) (fun hc62 => ?_)
              · refine lv_aload_n hx hb dc_Mo_verify_67 rfl (lv_at hl 2 rfl) ?_
                refine va_get (ci := 10) (v := .ref x7) (C := rn_Mo) (T := fd_Mo) (N := 36) hx hb hts in_Mo hown hK hP 0 rfl rfl 20 (by decide) (hts _ wd_766) (fun _ h9 => h9) rfl dc_Mo_verify_68 ?_
                refine lv_iload_n hx hb dc_Mo_verify_71 rfl (lv_at hl 0 rfl) ?_
                refine lv_aload_n hx hb dc_Mo_verify_72 rfl (lv_at hl 2 rfl) ?_
                refine va_get (ci := 10) (v := .ref x9) (C := rn_Mo) (T := fd_Mo) (N := 36) hx hb hts in_Mo hown hK hP 0 rfl rfl 23 (by decide) (hts _ wd_769) (fun _ h9 => h9) rfl dc_Mo_verify_73 ?_
                refine lv_iload_n hx hb dc_Mo_verify_76 rfl (lv_at hl 1 rfl) ?_
                refine ka_bald (t := ad) hx hb hK hP 6 1 rfl rfl (j := i) (by omega) (by omega) dc_Mo_verify_77 ?_
                refine kb_if_eq hx hb dc_Mo_verify_78 rfl (fun hc78 => ?_) (fun hc78 => ?_)
                · exact absurd hc78 (by rw [hc45]; decide)
                · refine lv_aload_n hx hb dc_Mo_verify_81 rfl (lv_at hl 2 rfl) ?_
                  refine va_get (ci := 10) (v := .ref x8) (C := rn_Mo) (T := fd_Mo) (N := 36) hx hb hts in_Mo hown hK hP 0 rfl rfl 21 (by decide) (hts _ wd_767) (fun _ h9 => h9) rfl dc_Mo_verify_82 ?_
                  refine lv_iload_n hx hb dc_Mo_verify_85 rfl (lv_at hl 0 rfl) ?_
                  refine ka_bald (t := kb) hx hb hK hP 5 1 rfl rfl (j := nu i) (by have := hnu i (by omega) (by omega); omega) (by omega) dc_Mo_verify_86 ?_
                  refine kb_if_eq hx hb dc_Mo_verify_87 rfl (fun hc87 => ?_) (fun hc87 => ?_)
                  · exact absurd hc87 (by rw [hc54]; decide)
                  · refine lv_iconst (v := nI 1) hx hb dc_Mo_verify_90 (by decide +kernel) ?_
                    refine lv_goto hx hb dc_Mo_verify_91 rfl ?_
                    refine kn_top (y := kb_i true) (by decide +kernel) ?_
                    refine ka_bast (t := lb1) hx hb hK hP hD hS 4 1 rfl rfl (j := nu i) (by have := hnu i (by omega) (by omega); omega) (by omega) dc_Mo_verify_95 (ws' := [mo_c o 0 mty x0 mat mfr mto mgd mrd x1 x2 x3 mhf mhp mcl mck mba mct x4 x5 x6 x7 x8 mst x9 x10 x11 x12 ex_1 mrs x13 x14 x15 x16 mwr x17 GG.2.1, ar_n cI x4 33 fs, ar_n cI x5 33 fz, ar_i cI x6 264 fl, ar_b cZ x7 33 (va_up lb1 (nu i) true), ar_b cZ x8 33 kb, ar_b cZ x9 17 ad, ar_n cI x10 17 nu, ar_n cI x11 33 hc, ar_i cI x12 6400 hh]) rfl (fun H locs hP hD hS => ?_)
                    refine lv_iinc (k := 1) (v := nI (i + 1)) (lv' := [(1, .int (nI (i + 1))), (2, .int (nI (nu i))), (0, .ref o)]) hx hb dc_Mo_verify_96 hl rfl (nI_1 _) (by decide) rfl (fun ls hl => ?_)
                    refine lv_goto hx hb dc_Mo_verify_99 rfl ?_
                    have hl := lv_sub (l' := [(1, .int (nI (i + 1))), (0, .ref o)]) hl [0, 2] rfl
                    exact ih_24 _ _ _ _ _ _ _ _ _ _ _ _ _ _ _ (by omega) hP hD hS hl (by rw [← h1, hst, if_pos hc62]) (⟨by omega, by omega⟩) (hlb9) (hlt9)
              · refine lv_iload_n hx hb dc_Mo_verify_65 rfl (lv_at hl 0 rfl) ?_
                exact ke_iret (x := (ex_1, GG.2.1, lb1)) hx hb hr hlocks hP hD hS dc_Mo_verify_66 (by rw [← h1, hst, if_neg (by rw [hc62]; decide)]) (rfl)
    exact lp_24 _ 1 ((2 ^ (mba + 1) - 2)) (pt_fst lb mba 33) mtr mfo gx gc gn gt gf rs im _ _ _ (Nat.lt_succ_self _) hP hD hS hl (rfl) (⟨by omega, by omega⟩) (fun j h8 h9 => by rw [fo_bit h8]; unfold pt_fst; rw [if_pos (by omega)]) (fun j h7 h8 => by rw [fo_bit h7] at h8; exact Or.inl (of_decide_eq_true h8))
  · exact absurd hc9 (by rw [hck]; decide)

set_option maxHeartbeats 4000000 in
set_option maxRecDepth 100000 in
theorem ct_Mo_verify_no (l : Launch) (D : va_G) (cI cZ : ClassId) (sz : Nat) (o : Nat) (mth : Nat) (mty : Nat) (x0 : Nat) (mat : Nat) (mfr : Nat) (mto : Nat) (mgd : Bool) (mrd : Nat) (x1 : Nat) (x2 : Nat) (x3 : Nat) (mhf : Bool) (mhp : Bool) (mcl : Bool) (mck : Bool) (mba : Nat) (mct : Nat) (x4 : Nat) (x5 : Nat) (x6 : Nat) (x7 : Nat) (x8 : Nat) (mst : Nat) (x9 : Nat) (x10 : Nat) (x11 : Nat) (x12 : Nat) (mtr : Nat) (mrs : Nat) (x13 : Nat) (x14 : Nat) (x15 : Nat) (x16 : Nat) (mwr : Nat) (x17 : Nat) (mfo : Nat) (hck : mck = false) : Met l yn_Mo_verify (Cond.code yn_Mo_verify bc_Mo_verify 3 (some .int) :: kx_all) ({ frames := 1, cells := 0, slots := 0, locals := 21 } : Room) (kp [.ref o] D cI cZ [mo_c o mth mty x0 mat mfr mto mgd mrd x1 x2 x3 mhf mhp mcl mck mba mct x4 x5 x6 x7 x8 mst x9 x10 x11 x12 mtr mrs x13 x14 x15 x16 mwr x17 mfo] sz) (kw_q (some (.int (nI 0))) D kc_l [mo_c o 1 mty x0 mat mfr mto mgd mrd x1 x2 x3 mhf mhp mcl mck mba mct x4 x5 x6 x7 x8 mst x9 x10 x11 x12 mtr mrs x13 x14 x15 x16 mwr x17 mfo] (va_A [mo_c o mth mty x0 mat mfr mto mgd mrd x1 x2 x3 mhf mhp mcl mck mba mct x4 x5 x6 x7 x8 mst x9 x10 x11 x12 mtr mrs x13 x14 x15 x16 mwr x17 mfo] sz)) 0 0 (va_A [mo_c o mth mty x0 mat mfr mto mgd mrd x1 x2 x3 mhf mhp mcl mck mba mct x4 x5 x6 x7 x8 mst x9 x10 x11 x12 mtr mrs x13 x14 x15 x16 mwr x17 mfo] sz) := by
  refine kx_metW (by decide) (Nat.le_of_ble_eq_true rfl) ?_
  intro p e s m below meth c ls A hx hb hr hml hts hown hlocks hin hA hP hK hD hN hl hS
  have hown : s.vm.findClass rn_Mo = some m.cls := hown
  have hl : lv_has ls 3 [(0, .ref o)] := hl
  refine lv_aload_n hx hb dc_Mo_verify_0 rfl (lv_at hl 0 rfl) ?_
  refine lv_iconst (v := nI 0) hx hb dc_Mo_verify_1 (by decide +kernel) ?_
  refine va_put (ci := 10) (v := .int (nI 0)) (ty := .int) (C := rn_Mo) (T := fd_Mo) (N := 36) hx hb hts in_Mo ty_Mo tk_Mo nm_Mo hown hK hP hD hS 0 rfl rfl 0 (by decide) (hts _ wd_746) (fun _ h9 => h9) rfl (by decide +kernel) rfl rfl (Nat.le_of_ble_eq_true rfl) dc_Mo_verify_2 (fun H locs hP hD hS => ?_)
  have hP : va_P D kc_l [mo_c o 0 mty x0 mat mfr mto mgd mrd x1 x2 x3 mhf mhp mcl mck mba mct x4 x5 x6 x7 x8 mst x9 x10 x11 x12 mtr mrs x13 x14 x15 x16 mwr x17 mfo] H := hP
  have hD : va_D A [mo_c o 0 mty x0 mat mfr mto mgd mrd x1 x2 x3 mhf mhp mcl mck mba mct x4 x5 x6 x7 x8 mst x9 x10 x11 x12 mtr mrs x13 x14 x15 x16 mwr x17 mfo] := hD
  refine lv_aload_n hx hb dc_Mo_verify_5 rfl (lv_at hl 0 rfl) ?_
  refine va_get (ci := 10) (v := .int (kb_i mck)) (C := rn_Mo) (T := fd_Mo) (N := 36) hx hb hts in_Mo hown hK hP 0 rfl rfl 14 (by decide) (hts _ wd_760) (fun _ h9 => h9) rfl dc_Mo_verify_6 ?_
  refine kb_if_ne hx hb dc_Mo_verify_9 rfl (fun hc9 => ?_) (fun hc9 => ?_)
  · exact absurd hc9 (by rw [hck]; decide)
  · refine lv_aload_n hx hb dc_Mo_verify_12 rfl (lv_at hl 0 rfl) ?_
    refine lv_iconst (v := nI 1) hx hb dc_Mo_verify_13 (by decide +kernel) ?_
    refine kw_call1 (wr := []) (ws' := [mo_c o 1 mty x0 mat mfr mto mgd mrd x1 x2 x3 mhf mhp mcl mck mba mct x4 x5 x6 x7 x8 mst x9 x10 x11 x12 mtr mrs x13 x14 x15 x16 mwr x17 mfo]) (va_runV (As := [.int (nI 1)]) (rest := []) ⟨hx, hb, hml, hown, hts⟩ (ct_Mo_refuse l D cI cZ _ o 0 mty x0 mat mfr mto mgd mrd x1 x2 x3 mhf mhp mcl mck mba mct x4 x5 x6 x7 x8 mst x9 x10 x11 x12 mtr mrs x13 x14 x15 x16 mwr x17 mfo 1) (cwV 1 hts (kx_gV wd_903 wd_905 (kx_sel (q := (yn_Mo_refuse, 36)) (List.mem_append_right _ (List.mem_append_left _ (List.mem_of_getElem? (i := 3) rfl)))) wd_9 wd_906) rfl rfl rfl ⟨rfl, yd_Mo_refuse⟩ ⟨Nat.le_of_ble_eq_true rfl, Nat.le_of_ble_eq_true rfl⟩) (kp_V (q0 := 0) (ci := 10) hP hD hK hN [0] rfl rfl rfl rfl rfl) rfl rfl hl.1 rfl (lv_room (Nat.le_of_ble_eq_true rfl)) dc_Mo_verify_14 ⟨Nat.le_of_ble_eq_true rfl, Nat.le_of_ble_eq_true rfl⟩) hP hD hS hA [0] [] [0] rfl rfl rfl (by decide) rfl rfl (fun H locs hP hD hS => ?_)
    exact kw_iret hx hb hr hlocks hP hD hS dc_Mo_verify_17 (rfl) (rfl)
