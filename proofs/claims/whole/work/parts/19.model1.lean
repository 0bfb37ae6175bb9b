/-! the reference: small methods -/
theorem gap_v (x : Nat) : pt_gap x = (decide (x = 32) || decide (x = 10)) := by
  unfold pt_gap
  rfl
/-- how many of the first k bits -/
def pt_bits (x : Nat) : Nat → Nat
  | 0 => 0
  | k + 1 => pt_bits x k + x / 2 ^ k % 2

theorem dc_Mo_thrown_0 : decode bc_Mo_thrown 0 = .ok (.aload_n 0, 1) := by decide +kernel
theorem dc_Mo_thrown_1 : decode bc_Mo_thrown 1 = .ok (.getfield 65, 3) := by decide +kernel
theorem dc_Mo_thrown_4 : decode bc_Mo_thrown 4 = .ok (.ireturn, 1) := by decide +kernel
theorem dc_Mo_refuse_0 : decode bc_Mo_refuse 0 = .ok (.aload_n 0, 1) := by decide +kernel
theorem dc_Mo_refuse_1 : decode bc_Mo_refuse 1 = .ok (.iload_n 1, 1) := by decide +kernel
theorem dc_Mo_refuse_2 : decode bc_Mo_refuse 2 = .ok (.putfield 65, 3) := by decide +kernel
theorem dc_Mo_refuse_5 : decode bc_Mo_refuse 5 = .ok (.iconst 0, 1) := by decide +kernel
theorem dc_Mo_refuse_6 : decode bc_Mo_refuse 6 = .ok (.ireturn, 1) := by decide +kernel
theorem dc_Mo_wipe_0 : decode bc_Mo_wipe 0 = .ok (.aload_n 0, 1) := by decide +kernel
theorem dc_Mo_wipe_1 : decode bc_Mo_wipe 1 = .ok (.iconst 0, 1) := by decide +kernel
theorem dc_Mo_wipe_2 : decode bc_Mo_wipe 2 = .ok (.putfield 65, 3) := by decide +kernel
theorem dc_Mo_wipe_5 : decode bc_Mo_wipe 5 = .ok (.aload_n 0, 1) := by decide +kernel
theorem dc_Mo_wipe_6 : decode bc_Mo_wipe 6 = .ok (.getfield 69, 3) := by decide +kernel
theorem dc_Mo_wipe_9 : decode bc_Mo_wipe 9 = .ok (.istore_n 1, 1) := by decide +kernel
theorem dc_Mo_wipe_10 : decode bc_Mo_wipe 10 = .ok (.aload_n 0, 1) := by decide +kernel
theorem dc_Mo_wipe_11 : decode bc_Mo_wipe 11 = .ok (.iconst 0, 1) := by decide +kernel
theorem dc_Mo_wipe_12 : decode bc_Mo_wipe 12 = .ok (.putfield 69, 3) := by decide +kernel
theorem dc_Mo_wipe_15 : decode bc_Mo_wipe 15 = .ok (.iload_n 1, 1) := by decide +kernel
theorem dc_Mo_wipe_16 : decode bc_Mo_wipe 16 = .ok (.ireturn, 1) := by decide +kernel
theorem dc_Mo_isGap_0 : decode bc_Mo_isGap 0 = .ok (.iload_n 0, 1) := by decide +kernel
theorem dc_Mo_isGap_1 : decode bc_Mo_isGap 1 = .ok (.bipush (32), 2) := by decide +kernel
theorem dc_Mo_isGap_3 : decode bc_Mo_isGap 3 = .ok (.if_icmp .eq (9), 3) := by decide +kernel
theorem dc_Mo_isGap_6 : decode bc_Mo_isGap 6 = .ok (.iload_n 0, 1) := by decide +kernel
theorem dc_Mo_isGap_7 : decode bc_Mo_isGap 7 = .ok (.bipush (10), 2) := by decide +kernel
theorem dc_Mo_isGap_9 : decode bc_Mo_isGap 9 = .ok (.if_icmp .ne (7), 3) := by decide +kernel
theorem dc_Mo_isGap_12 : decode bc_Mo_isGap 12 = .ok (.iconst 1, 1) := by decide +kernel
theorem dc_Mo_isGap_13 : decode bc_Mo_isGap 13 = .ok (.goto (4), 3) := by decide +kernel
theorem dc_Mo_isGap_16 : decode bc_Mo_isGap 16 = .ok (.iconst 0, 1) := by decide +kernel
theorem dc_Mo_isGap_17 : decode bc_Mo_isGap 17 = .ok (.ireturn, 1) := by decide +kernel
theorem dc_Mo_word_0 : decode bc_Mo_word 0 = .ok (.aload_n 0, 1) := by decide +kernel
theorem dc_Mo_word_1 : decode bc_Mo_word 1 = .ok (.getfield 74, 3) := by decide +kernel
theorem dc_Mo_word_4 : decode bc_Mo_word 4 = .ok (.aload_n 0, 1) := by decide +kernel
theorem dc_Mo_word_5 : decode bc_Mo_word 5 = .ok (.getfield 69, 3) := by decide +kernel
theorem dc_Mo_word_8 : decode bc_Mo_word 8 = .ok (.if_icmp .ge (31), 3) := by decide +kernel
theorem dc_Mo_word_11 : decode bc_Mo_word 11 = .ok (.aload_n 0, 1) := by decide +kernel
theorem dc_Mo_word_12 : decode bc_Mo_word 12 = .ok (.getfield 7, 3) := by decide +kernel
theorem dc_Mo_word_15 : decode bc_Mo_word 15 = .ok (.aload_n 0, 1) := by decide +kernel
theorem dc_Mo_word_16 : decode bc_Mo_word 16 = .ok (.getfield 74, 3) := by decide +kernel
theorem dc_Mo_word_19 : decode bc_Mo_word 19 = .ok (.iaload, 1) := by decide +kernel
theorem dc_Mo_word_20 : decode bc_Mo_word 20 = .ok (.invokestatic 77, 3) := by decide +kernel
theorem dc_Mo_word_23 : decode bc_Mo_word 23 = .ok (.ifCond .eq (16), 3) := by decide +kernel
theorem dc_Mo_word_26 : decode bc_Mo_word 26 = .ok (.aload_n 0, 1) := by decide +kernel
theorem dc_Mo_word_27 : decode bc_Mo_word 27 = .ok (.dup, 1) := by decide +kernel
theorem dc_Mo_word_28 : decode bc_Mo_word 28 = .ok (.getfield 74, 3) := by decide +kernel
theorem dc_Mo_word_31 : decode bc_Mo_word 31 = .ok (.iconst 1, 1) := by decide +kernel
theorem dc_Mo_word_32 : decode bc_Mo_word 32 = .ok (.iadd, 1) := by decide +kernel
theorem dc_Mo_word_33 : decode bc_Mo_word 33 = .ok (.putfield 74, 3) := by decide +kernel
theorem dc_Mo_word_36 : decode bc_Mo_word 36 = .ok (.goto (-36), 3) := by decide +kernel
theorem dc_Mo_word_39 : decode bc_Mo_word 39 = .ok (.aload_n 0, 1) := by decide +kernel
theorem dc_Mo_word_40 : decode bc_Mo_word 40 = .ok (.aload_n 0, 1) := by decide +kernel
theorem dc_Mo_word_41 : decode bc_Mo_word 41 = .ok (.getfield 74, 3) := by decide +kernel
theorem dc_Mo_word_44 : decode bc_Mo_word 44 = .ok (.putfield 81, 3) := by decide +kernel
theorem dc_Mo_word_47 : decode bc_Mo_word 47 = .ok (.aload_n 0, 1) := by decide +kernel
theorem dc_Mo_word_48 : decode bc_Mo_word 48 = .ok (.getfield 74, 3) := by decide +kernel
theorem dc_Mo_word_51 : decode bc_Mo_word 51 = .ok (.aload_n 0, 1) := by decide +kernel
theorem dc_Mo_word_52 : decode bc_Mo_word 52 = .ok (.getfield 69, 3) := by decide +kernel
theorem dc_Mo_word_55 : decode bc_Mo_word 55 = .ok (.if_icmp .ge (31), 3) := by decide +kernel
theorem dc_Mo_word_58 : decode bc_Mo_word 58 = .ok (.aload_n 0, 1) := by decide +kernel
theorem dc_Mo_word_59 : decode bc_Mo_word 59 = .ok (.getfield 7, 3) := by decide +kernel
theorem dc_Mo_word_62 : decode bc_Mo_word 62 = .ok (.aload_n 0, 1) := by decide +kernel
theorem dc_Mo_word_63 : decode bc_Mo_word 63 = .ok (.getfield 74, 3) := by decide +kernel
theorem dc_Mo_word_66 : decode bc_Mo_word 66 = .ok (.iaload, 1) := by decide +kernel
theorem dc_Mo_word_67 : decode bc_Mo_word 67 = .ok (.invokestatic 77, 3) := by decide +kernel
theorem dc_Mo_word_70 : decode bc_Mo_word 70 = .ok (.ifCond .ne (16), 3) := by decide +kernel
theorem dc_Mo_word_73 : decode bc_Mo_word 73 = .ok (.aload_n 0, 1) := by decide +kernel
theorem dc_Mo_word_74 : decode bc_Mo_word 74 = .ok (.dup, 1) := by decide +kernel
theorem dc_Mo_word_75 : decode bc_Mo_word 75 = .ok (.getfield 74, 3) := by decide +kernel
theorem dc_Mo_word_78 : decode bc_Mo_word 78 = .ok (.iconst 1, 1) := by decide +kernel
theorem dc_Mo_word_79 : decode bc_Mo_word 79 = .ok (.iadd, 1) := by decide +kernel
theorem dc_Mo_word_80 : decode bc_Mo_word 80 = .ok (.putfield 74, 3) := by decide +kernel
theorem dc_Mo_word_83 : decode bc_Mo_word 83 = .ok (.goto (-36), 3) := by decide +kernel
theorem dc_Mo_word_86 : decode bc_Mo_word 86 = .ok (.aload_n 0, 1) := by decide +kernel
theorem dc_Mo_word_87 : decode bc_Mo_word 87 = .ok (.aload_n 0, 1) := by decide +kernel
theorem dc_Mo_word_88 : decode bc_Mo_word 88 = .ok (.getfield 74, 3) := by decide +kernel
theorem dc_Mo_word_91 : decode bc_Mo_word 91 = .ok (.putfield 84, 3) := by decide +kernel
theorem dc_Mo_word_94 : decode bc_Mo_word 94 = .ok (.aload_n 0, 1) := by decide +kernel
theorem dc_Mo_word_95 : decode bc_Mo_word 95 = .ok (.getfield 84, 3) := by decide +kernel
theorem dc_Mo_word_98 : decode bc_Mo_word 98 = .ok (.aload_n 0, 1) := by decide +kernel
theorem dc_Mo_word_99 : decode bc_Mo_word 99 = .ok (.getfield 81, 3) := by decide +kernel
theorem dc_Mo_word_102 : decode bc_Mo_word 102 = .ok (.if_icmp .le (7), 3) := by decide +kernel
theorem dc_Mo_word_105 : decode bc_Mo_word 105 = .ok (.iconst 1, 1) := by decide +kernel
theorem dc_Mo_word_106 : decode bc_Mo_word 106 = .ok (.goto (4), 3) := by decide +kernel
theorem dc_Mo_word_109 : decode bc_Mo_word 109 = .ok (.iconst 0, 1) := by decide +kernel
theorem dc_Mo_word_110 : decode bc_Mo_word 110 = .ok (.ireturn, 1) := by decide +kernel
theorem dc_Mo_isWord_0 : decode bc_Mo_isWord 0 = .ok (.iload_n 3, 1) := by decide +kernel
theorem dc_Mo_isWord_1 : decode bc_Mo_isWord 1 = .ok (.ifCond .le (7), 3) := by decide +kernel
theorem dc_Mo_isWord_4 : decode bc_Mo_isWord 4 = .ok (.iconst 3, 1) := by decide +kernel
theorem dc_Mo_isWord_5 : decode bc_Mo_isWord 5 = .ok (.goto (4), 3) := by decide +kernel
theorem dc_Mo_isWord_8 : decode bc_Mo_isWord 8 = .ok (.iconst 1, 1) := by decide +kernel
theorem dc_Mo_isWord_9 : decode bc_Mo_isWord 9 = .ok (.istore 4, 2) := by decide +kernel
theorem dc_Mo_isWord_11 : decode bc_Mo_isWord 11 = .ok (.aload_n 0, 1) := by decide +kernel
theorem dc_Mo_isWord_12 : decode bc_Mo_isWord 12 = .ok (.getfield 84, 3) := by decide +kernel
theorem dc_Mo_isWord_15 : decode bc_Mo_isWord 15 = .ok (.aload_n 0, 1) := by decide +kernel
theorem dc_Mo_isWord_16 : decode bc_Mo_isWord 16 = .ok (.getfield 81, 3) := by decide +kernel
theorem dc_Mo_isWord_19 : decode bc_Mo_isWord 19 = .ok (.isub, 1) := by decide +kernel
theorem dc_Mo_isWord_20 : decode bc_Mo_isWord 20 = .ok (.iload 4, 2) := by decide +kernel
theorem dc_Mo_isWord_22 : decode bc_Mo_isWord 22 = .ok (.if_icmp .ne (56), 3) := by decide +kernel
theorem dc_Mo_isWord_25 : decode bc_Mo_isWord 25 = .ok (.aload_n 0, 1) := by decide +kernel
theorem dc_Mo_isWord_26 : decode bc_Mo_isWord 26 = .ok (.getfield 7, 3) := by decide +kernel
theorem dc_Mo_isWord_29 : decode bc_Mo_isWord 29 = .ok (.aload_n 0, 1) := by decide +kernel
theorem dc_Mo_isWord_30 : decode bc_Mo_isWord 30 = .ok (.getfield 81, 3) := by decide +kernel
theorem dc_Mo_isWord_33 : decode bc_Mo_isWord 33 = .ok (.iaload, 1) := by decide +kernel
theorem dc_Mo_isWord_34 : decode bc_Mo_isWord 34 = .ok (.iload_n 1, 1) := by decide +kernel
theorem dc_Mo_isWord_35 : decode bc_Mo_isWord 35 = .ok (.if_icmp .ne (43), 3) := by decide +kernel
theorem dc_Mo_isWord_38 : decode bc_Mo_isWord 38 = .ok (.iload 4, 2) := by decide +kernel
theorem dc_Mo_isWord_40 : decode bc_Mo_isWord 40 = .ok (.iconst 1, 1) := by decide +kernel
theorem dc_Mo_isWord_41 : decode bc_Mo_isWord 41 = .ok (.if_icmp .eq (33), 3) := by decide +kernel
theorem dc_Mo_isWord_44 : decode bc_Mo_isWord 44 = .ok (.aload_n 0, 1) := by decide +kernel
theorem dc_Mo_isWord_45 : decode bc_Mo_isWord 45 = .ok (.getfield 7, 3) := by decide +kernel
theorem dc_Mo_isWord_48 : decode bc_Mo_isWord 48 = .ok (.aload_n 0, 1) := by decide +kernel
theorem dc_Mo_isWord_49 : decode bc_Mo_isWord 49 = .ok (.getfield 81, 3) := by decide +kernel
theorem dc_Mo_isWord_52 : decode bc_Mo_isWord 52 = .ok (.iconst 1, 1) := by decide +kernel
theorem dc_Mo_isWord_53 : decode bc_Mo_isWord 53 = .ok (.iadd, 1) := by decide +kernel
theorem dc_Mo_isWord_54 : decode bc_Mo_isWord 54 = .ok (.iaload, 1) := by decide +kernel
theorem dc_Mo_isWord_55 : decode bc_Mo_isWord 55 = .ok (.iload_n 2, 1) := by decide +kernel
theorem dc_Mo_isWord_56 : decode bc_Mo_isWord 56 = .ok (.if_icmp .ne (22), 3) := by decide +kernel
theorem dc_Mo_isWord_59 : decode bc_Mo_isWord 59 = .ok (.aload_n 0, 1) := by decide +kernel
theorem dc_Mo_isWord_60 : decode bc_Mo_isWord 60 = .ok (.getfield 7, 3) := by decide +kernel
theorem dc_Mo_isWord_63 : decode bc_Mo_isWord 63 = .ok (.aload_n 0, 1) := by decide +kernel
theorem dc_Mo_isWord_64 : decode bc_Mo_isWord 64 = .ok (.getfield 81, 3) := by decide +kernel
theorem dc_Mo_isWord_67 : decode bc_Mo_isWord 67 = .ok (.iconst 2, 1) := by decide +kernel
theorem dc_Mo_isWord_68 : decode bc_Mo_isWord 68 = .ok (.iadd, 1) := by decide +kernel
theorem dc_Mo_isWord_69 : decode bc_Mo_isWord 69 = .ok (.iaload, 1) := by decide +kernel
theorem dc_Mo_isWord_70 : decode bc_Mo_isWord 70 = .ok (.iload_n 3, 1) := by decide +kernel
theorem dc_Mo_isWord_71 : decode bc_Mo_isWord 71 = .ok (.if_icmp .ne (7), 3) := by decide +kernel
theorem dc_Mo_isWord_74 : decode bc_Mo_isWord 74 = .ok (.iconst 1, 1) := by decide +kernel
theorem dc_Mo_isWord_75 : decode bc_Mo_isWord 75 = .ok (.goto (4), 3) := by decide +kernel
theorem dc_Mo_isWord_78 : decode bc_Mo_isWord 78 = .ok (.iconst 0, 1) := by decide +kernel
theorem dc_Mo_isWord_79 : decode bc_Mo_isWord 79 = .ok (.ireturn, 1) := by decide +kernel
theorem dc_Mo_bitOf_0 : decode bc_Mo_bitOf 0 = .ok (.iload_n 0, 1) := by decide +kernel
theorem dc_Mo_bitOf_1 : decode bc_Mo_bitOf 1 = .ok (.ifCond .le (11), 3) := by decide +kernel
theorem dc_Mo_bitOf_4 : decode bc_Mo_bitOf 4 = .ok (.iconst 1, 1) := by decide +kernel
theorem dc_Mo_bitOf_5 : decode bc_Mo_bitOf 5 = .ok (.iload_n 0, 1) := by decide +kernel
theorem dc_Mo_bitOf_6 : decode bc_Mo_bitOf 6 = .ok (.iconst 1, 1) := by decide +kernel
theorem dc_Mo_bitOf_7 : decode bc_Mo_bitOf 7 = .ok (.isub, 1) := by decide +kernel
theorem dc_Mo_bitOf_8 : decode bc_Mo_bitOf 8 = .ok (.ishl, 1) := by decide +kernel
theorem dc_Mo_bitOf_9 : decode bc_Mo_bitOf 9 = .ok (.goto (9), 3) := by decide +kernel
theorem dc_Mo_bitOf_12 : decode bc_Mo_bitOf 12 = .ok (.iconst 1, 1) := by decide +kernel
theorem dc_Mo_bitOf_13 : decode bc_Mo_bitOf 13 = .ok (.bipush (7), 2) := by decide +kernel
theorem dc_Mo_bitOf_15 : decode bc_Mo_bitOf 15 = .ok (.iload_n 0, 1) := by decide +kernel
theorem dc_Mo_bitOf_16 : decode bc_Mo_bitOf 16 = .ok (.isub, 1) := by decide +kernel
theorem dc_Mo_bitOf_17 : decode bc_Mo_bitOf 17 = .ok (.ishl, 1) := by decide +kernel
theorem dc_Mo_bitOf_18 : decode bc_Mo_bitOf 18 = .ok (.ireturn, 1) := by decide +kernel
theorem dc_Mo_opposite_0 : decode bc_Mo_opposite 0 = .ok (.iload_n 0, 1) := by decide +kernel
theorem dc_Mo_opposite_1 : decode bc_Mo_opposite 1 = .ok (.sipush (255), 3) := by decide +kernel
theorem dc_Mo_opposite_4 : decode bc_Mo_opposite 4 = .ok (.iand, 1) := by decide +kernel
theorem dc_Mo_opposite_5 : decode bc_Mo_opposite 5 = .ok (.bipush (8), 2) := by decide +kernel
theorem dc_Mo_opposite_7 : decode bc_Mo_opposite 7 = .ok (.ishl, 1) := by decide +kernel
theorem dc_Mo_opposite_8 : decode bc_Mo_opposite 8 = .ok (.iload_n 0, 1) := by decide +kernel
theorem dc_Mo_opposite_9 : decode bc_Mo_opposite 9 = .ok (.bipush (8), 2) := by decide +kernel
theorem dc_Mo_opposite_11 : decode bc_Mo_opposite 11 = .ok (.ishr, 1) := by decide +kernel
theorem dc_Mo_opposite_12 : decode bc_Mo_opposite 12 = .ok (.ior, 1) := by decide +kernel
theorem dc_Mo_opposite_13 : decode bc_Mo_opposite 13 = .ok (.ireturn, 1) := by decide +kernel
theorem dc_Mo_bits_0 : decode bc_Mo_bits 0 = .ok (.iconst 0, 1) := by decide +kernel
theorem dc_Mo_bits_1 : decode bc_Mo_bits 1 = .ok (.istore_n 1, 1) := by decide +kernel
theorem dc_Mo_bits_2 : decode bc_Mo_bits 2 = .ok (.iconst 0, 1) := by decide +kernel
theorem dc_Mo_bits_3 : decode bc_Mo_bits 3 = .ok (.istore_n 2, 1) := by decide +kernel
theorem dc_Mo_bits_4 : decode bc_Mo_bits 4 = .ok (.iload_n 2, 1) := by decide +kernel
theorem dc_Mo_bits_5 : decode bc_Mo_bits 5 = .ok (.bipush (16), 2) := by decide +kernel
theorem dc_Mo_bits_7 : decode bc_Mo_bits 7 = .ok (.if_icmp .ge (17), 3) := by decide +kernel
theorem dc_Mo_bits_10 : decode bc_Mo_bits 10 = .ok (.iload_n 1, 1) := by decide +kernel
theorem dc_Mo_bits_11 : decode bc_Mo_bits 11 = .ok (.iload_n 0, 1) := by decide +kernel
theorem dc_Mo_bits_12 : decode bc_Mo_bits 12 = .ok (.iload_n 2, 1) := by decide +kernel
theorem dc_Mo_bits_13 : decode bc_Mo_bits 13 = .ok (.ishr, 1) := by decide +kernel
theorem dc_Mo_bits_14 : decode bc_Mo_bits 14 = .ok (.iconst 1, 1) := by decide +kernel
theorem dc_Mo_bits_15 : decode bc_Mo_bits 15 = .ok (.iand, 1) := by decide +kernel
theorem dc_Mo_bits_16 : decode bc_Mo_bits 16 = .ok (.iadd, 1) := by decide +kernel
theorem dc_Mo_bits_17 : decode bc_Mo_bits 17 = .ok (.istore_n 1, 1) := by decide +kernel
theorem dc_Mo_bits_18 : decode bc_Mo_bits 18 = .ok (.iinc 2 (1), 3) := by decide +kernel
theorem dc_Mo_bits_21 : decode bc_Mo_bits 21 = .ok (.goto (-17), 3) := by decide +kernel
theorem dc_Mo_bits_24 : decode bc_Mo_bits 24 = .ok (.iload_n 1, 1) := by decide +kernel
theorem dc_Mo_bits_25 : decode bc_Mo_bits 25 = .ok (.ireturn, 1) := by decide +kernel
theorem dc_Mo_open_0 : decode bc_Mo_open 0 = .ok (.aload_n 0, 1) := by decide +kernel
theorem dc_Mo_open_1 : decode bc_Mo_open 1 = .ok (.getfield 23, 3) := by decide +kernel
theorem dc_Mo_open_4 : decode bc_Mo_open 4 = .ok (.iload_n 1, 1) := by decide +kernel
theorem dc_Mo_open_5 : decode bc_Mo_open 5 = .ok (.iaload, 1) := by decide +kernel
theorem dc_Mo_open_6 : decode bc_Mo_open 6 = .ok (.aload_n 0, 1) := by decide +kernel
theorem dc_Mo_open_7 : decode bc_Mo_open 7 = .ok (.getfield 168, 3) := by decide +kernel
theorem dc_Mo_open_10 : decode bc_Mo_open 10 = .ok (.aload_n 0, 1) := by decide +kernel
theorem dc_Mo_open_11 : decode bc_Mo_open 11 = .ok (.getfield 168, 3) := by decide +kernel
theorem dc_Mo_open_14 : decode bc_Mo_open 14 = .ok (.invokestatic 171, 3) := by decide +kernel
theorem dc_Mo_open_17 : decode bc_Mo_open 17 = .ok (.ior, 1) := by decide +kernel
theorem dc_Mo_open_18 : decode bc_Mo_open 18 = .ok (.iconst (-1), 1) := by decide +kernel
theorem dc_Mo_open_19 : decode bc_Mo_open 19 = .ok (.ixor, 1) := by decide +kernel
theorem dc_Mo_open_20 : decode bc_Mo_open 20 = .ok (.iand, 1) := by decide +kernel
theorem dc_Mo_open_21 : decode bc_Mo_open 21 = .ok (.ireturn, 1) := by decide +kernel
theorem dc_Mo_setAt_0 : decode bc_Mo_setAt 0 = .ok (.iconst 0, 1) := by decide +kernel
theorem dc_Mo_setAt_1 : decode bc_Mo_setAt 1 = .ok (.istore_n 2, 1) := by decide +kernel
theorem dc_Mo_setAt_2 : decode bc_Mo_setAt 2 = .ok (.iconst 0, 1) := by decide +kernel
theorem dc_Mo_setAt_3 : decode bc_Mo_setAt 3 = .ok (.istore_n 3, 1) := by decide +kernel
theorem dc_Mo_setAt_4 : decode bc_Mo_setAt 4 = .ok (.iload_n 3, 1) := by decide +kernel
theorem dc_Mo_setAt_5 : decode bc_Mo_setAt 5 = .ok (.aload_n 0, 1) := by decide +kernel
theorem dc_Mo_setAt_6 : decode bc_Mo_setAt 6 = .ok (.getfield 13, 3) := by decide +kernel
theorem dc_Mo_setAt_9 : decode bc_Mo_setAt 9 = .ok (.iload_n 1, 1) := by decide +kernel
theorem dc_Mo_setAt_10 : decode bc_Mo_setAt 10 = .ok (.iaload, 1) := by decide +kernel
theorem dc_Mo_setAt_11 : decode bc_Mo_setAt 11 = .ok (.if_icmp .ge (26), 3) := by decide +kernel
theorem dc_Mo_setAt_14 : decode bc_Mo_setAt 14 = .ok (.iload_n 2, 1) := by decide +kernel
theorem dc_Mo_setAt_15 : decode bc_Mo_setAt 15 = .ok (.aload_n 0, 1) := by decide +kernel
theorem dc_Mo_setAt_16 : decode bc_Mo_setAt 16 = .ok (.getfield 16, 3) := by decide +kernel
theorem dc_Mo_setAt_19 : decode bc_Mo_setAt 19 = .ok (.bipush (8), 2) := by decide +kernel
theorem dc_Mo_setAt_21 : decode bc_Mo_setAt 21 = .ok (.iload_n 1, 1) := by decide +kernel
theorem dc_Mo_setAt_22 : decode bc_Mo_setAt 22 = .ok (.imul, 1) := by decide +kernel
theorem dc_Mo_setAt_23 : decode bc_Mo_setAt 23 = .ok (.iload_n 3, 1) := by decide +kernel
theorem dc_Mo_setAt_24 : decode bc_Mo_setAt 24 = .ok (.iadd, 1) := by decide +kernel
theorem dc_Mo_setAt_25 : decode bc_Mo_setAt 25 = .ok (.iaload, 1) := by decide +kernel
theorem dc_Mo_setAt_26 : decode bc_Mo_setAt 26 = .ok (.invokestatic 118, 3) := by decide +kernel
theorem dc_Mo_setAt_29 : decode bc_Mo_setAt 29 = .ok (.ior, 1) := by decide +kernel
theorem dc_Mo_setAt_30 : decode bc_Mo_setAt 30 = .ok (.istore_n 2, 1) := by decide +kernel
theorem dc_Mo_setAt_31 : decode bc_Mo_setAt 31 = .ok (.iinc 3 (1), 3) := by decide +kernel
theorem dc_Mo_setAt_34 : decode bc_Mo_setAt 34 = .ok (.goto (-30), 3) := by decide +kernel
theorem dc_Mo_setAt_37 : decode bc_Mo_setAt 37 = .ok (.iload_n 2, 1) := by decide +kernel
theorem dc_Mo_setAt_38 : decode bc_Mo_setAt 38 = .ok (.ireturn, 1) := by decide +kernel
theorem dc_Mo_isClause_0 : decode bc_Mo_isClause 0 = .ok (.iload_n 1, 1) := by decide +kernel
theorem dc_Mo_isClause_1 : decode bc_Mo_isClause 1 = .ok (.ifCond .le (15), 3) := by decide +kernel
theorem dc_Mo_isClause_4 : decode bc_Mo_isClause 4 = .ok (.iload_n 1, 1) := by decide +kernel
theorem dc_Mo_isClause_5 : decode bc_Mo_isClause 5 = .ok (.aload_n 0, 1) := by decide +kernel
theorem dc_Mo_isClause_6 : decode bc_Mo_isClause 6 = .ok (.getfield 122, 3) := by decide +kernel
theorem dc_Mo_isClause_9 : decode bc_Mo_isClause 9 = .ok (.if_icmp .gt (7), 3) := by decide +kernel
theorem dc_Mo_isClause_12 : decode bc_Mo_isClause 12 = .ok (.iconst 1, 1) := by decide +kernel
theorem dc_Mo_isClause_13 : decode bc_Mo_isClause 13 = .ok (.goto (4), 3) := by decide +kernel
theorem dc_Mo_isClause_16 : decode bc_Mo_isClause 16 = .ok (.iconst 0, 1) := by decide +kernel
theorem dc_Mo_isClause_17 : decode bc_Mo_isClause 17 = .ok (.ireturn, 1) := by decide +kernel
theorem dc_Mo_say_0 : decode bc_Mo_say 0 = .ok (.aload_n 0, 1) := by decide +kernel
theorem dc_Mo_say_1 : decode bc_Mo_say 1 = .ok (.getfield 47, 3) := by decide +kernel
theorem dc_Mo_say_4 : decode bc_Mo_say 4 = .ok (.sipush (400), 3) := by decide +kernel
theorem dc_Mo_say_7 : decode bc_Mo_say 7 = .ok (.iload_n 1, 1) := by decide +kernel
theorem dc_Mo_say_8 : decode bc_Mo_say 8 = .ok (.aload_n 0, 1) := by decide +kernel
theorem dc_Mo_say_9 : decode bc_Mo_say 9 = .ok (.getfield 150, 3) := by decide +kernel
theorem dc_Mo_say_12 : decode bc_Mo_say 12 = .ok (.isub, 1) := by decide +kernel
theorem dc_Mo_say_13 : decode bc_Mo_say 13 = .ok (.iconst 1, 1) := by decide +kernel
theorem dc_Mo_say_14 : decode bc_Mo_say 14 = .ok (.isub, 1) := by decide +kernel
theorem dc_Mo_say_15 : decode bc_Mo_say 15 = .ok (.imul, 1) := by decide +kernel
theorem dc_Mo_say_16 : decode bc_Mo_say 16 = .ok (.aload_n 0, 1) := by decide +kernel
theorem dc_Mo_say_17 : decode bc_Mo_say 17 = .ok (.getfield 44, 3) := by decide +kernel
theorem dc_Mo_say_20 : decode bc_Mo_say 20 = .ok (.iload_n 1, 1) := by decide +kernel
theorem dc_Mo_say_21 : decode bc_Mo_say 21 = .ok (.iaload, 1) := by decide +kernel
theorem dc_Mo_say_22 : decode bc_Mo_say 22 = .ok (.iadd, 1) := by decide +kernel
theorem dc_Mo_say_23 : decode bc_Mo_say 23 = .ok (.iload_n 2, 1) := by decide +kernel
theorem dc_Mo_say_24 : decode bc_Mo_say 24 = .ok (.iastore, 1) := by decide +kernel
theorem dc_Mo_say_25 : decode bc_Mo_say 25 = .ok (.aload_n 0, 1) := by decide +kernel
theorem dc_Mo_say_26 : decode bc_Mo_say 26 = .ok (.getfield 44, 3) := by decide +kernel
theorem dc_Mo_say_29 : decode bc_Mo_say 29 = .ok (.iload_n 1, 1) := by decide +kernel
theorem dc_Mo_say_30 : decode bc_Mo_say 30 = .ok (.dup2, 1) := by decide +kernel
theorem dc_Mo_say_31 : decode bc_Mo_say 31 = .ok (.iaload, 1) := by decide +kernel
theorem dc_Mo_say_32 : decode bc_Mo_say 32 = .ok (.iconst 1, 1) := by decide +kernel
theorem dc_Mo_say_33 : decode bc_Mo_say 33 = .ok (.iadd, 1) := by decide +kernel
theorem dc_Mo_say_34 : decode bc_Mo_say 34 = .ok (.iastore, 1) := by decide +kernel
theorem dc_Mo_say_35 : decode bc_Mo_say 35 = .ok (.return_, 1) := by decide +kernel
theorem dc_Mo_put_0 : decode bc_Mo_put 0 = .ok (.aload_n 0, 1) := by decide +kernel
theorem dc_Mo_put_1 : decode bc_Mo_put 1 = .ok (.getfield 62, 3) := by decide +kernel
theorem dc_Mo_put_4 : decode bc_Mo_put 4 = .ok (.aload_n 0, 1) := by decide +kernel
theorem dc_Mo_put_5 : decode bc_Mo_put 5 = .ok (.getfield 227, 3) := by decide +kernel
theorem dc_Mo_put_8 : decode bc_Mo_put 8 = .ok (.iload_n 1, 1) := by decide +kernel
theorem dc_Mo_put_9 : decode bc_Mo_put 9 = .ok (.iastore, 1) := by decide +kernel
theorem dc_Mo_put_10 : decode bc_Mo_put 10 = .ok (.aload_n 0, 1) := by decide +kernel
theorem dc_Mo_put_11 : decode bc_Mo_put 11 = .ok (.dup, 1) := by decide +kernel
theorem dc_Mo_put_12 : decode bc_Mo_put 12 = .ok (.getfield 227, 3) := by decide +kernel
theorem dc_Mo_put_15 : decode bc_Mo_put 15 = .ok (.iconst 1, 1) := by decide +kernel
theorem dc_Mo_put_16 : decode bc_Mo_put 16 = .ok (.iadd, 1) := by decide +kernel
theorem dc_Mo_put_17 : decode bc_Mo_put 17 = .ok (.putfield 227, 3) := by decide +kernel
theorem dc_Mo_put_20 : decode bc_Mo_put 20 = .ok (.return_, 1) := by decide +kernel
theorem dc_Mo_clauses_0 : decode bc_Mo_clauses 0 = .ok (.aload_n 0, 1) := by decide +kernel
theorem dc_Mo_clauses_1 : decode bc_Mo_clauses 1 = .ok (.iconst 0, 1) := by decide +kernel
theorem dc_Mo_clauses_2 : decode bc_Mo_clauses 2 = .ok (.putfield 65, 3) := by decide +kernel
theorem dc_Mo_clauses_5 : decode bc_Mo_clauses 5 = .ok (.aload_n 0, 1) := by decide +kernel
theorem dc_Mo_clauses_6 : decode bc_Mo_clauses 6 = .ok (.getfield 122, 3) := by decide +kernel
theorem dc_Mo_clauses_9 : decode bc_Mo_clauses 9 = .ok (.ireturn, 1) := by decide +kernel
set_option maxHeartbeats 4000000 in
set_option maxRecDepth 100000 in
theorem ct_Mo_thrown (l : Launch) (D : va_G) (cI cZ : ClassId) (sz : Nat) (o : Nat) (mth : Nat) (mty : Nat) (x0 : Nat) (mat : Nat) (mfr : Nat) (mto : Nat) (mgd : Bool) (mrd : Nat) (x1 : Nat) (x2 : Nat) (x3 : Nat) (mhf : Bool) (mhp : Bool) (mcl : Bool) (mck : Bool) (mba : Nat) (mct : Nat) (x4 : Nat) (x5 : Nat) (x6 : Nat) (x7 : Nat) (x8 : Nat) (mst : Nat) (x9 : Nat) (x10 : Nat) (x11 : Nat) (x12 : Nat) (mtr : Nat) (mrs : Nat) (x13 : Nat) (x14 : Nat) (x15 : Nat) (x16 : Nat) (mwr : Nat) (x17 : Nat) (mfo : Nat)  : Met l yn_Mo_thrown (Cond.code yn_Mo_thrown bc_Mo_thrown 1 (some .int) :: kx_all) ({ frames := 0, cells := 0, slots := 0, locals := 0 } : Room) (kp [.ref o] D cI cZ [mo_c o mth mty x0 mat mfr mto mgd mrd x1 x2 x3 mhf mhp mcl mck mba mct x4 x5 x6 x7 x8 mst x9 x10 x11 x12 mtr mrs x13 x14 x15 x16 mwr x17 mfo] sz) (kr_q (some (.int (nI mth)))) 0 0 (fun _ => False) := by
  refine kx_met (by decide) (Nat.le_of_ble_eq_true rfl) ?_
  intro p e s m below meth c ls hx hb hr hml hts hown hlocks hin hsz hP hK hD hN hl
  have hown : s.vm.findClass rn_Mo = some m.cls := hown
  have hl : lv_has ls 1 [(0, .ref o)] := hl
  refine lv_aload_n hx hb dc_Mo_thrown_0 rfl (lv_at hl 0 rfl) ?_
  refine va_get (ci := 10) (v := .int (nI mth)) (C := rn_Mo) (T := fd_Mo) (N := 36) hx hb hts in_Mo hown hK hP 0 rfl rfl 0 (by decide) (hts _ wd_746) (fun _ h9 => h9) rfl dc_Mo_thrown_1 ?_
  exact kr_iret hx hb hr hlocks dc_Mo_thrown_4 (rfl)

set_option maxHeartbeats 4000000 in
set_option maxRecDepth 100000 in
theorem ct_Mo_refuse (l : Launch) (D : va_G) (cI cZ : ClassId) (sz : Nat) (o : Nat) (mth : Nat) (mty : Nat) (x0 : Nat) (mat : Nat) (mfr : Nat) (mto : Nat) (mgd : Bool) (mrd : Nat) (x1 : Nat) (x2 : Nat) (x3 : Nat) (mhf : Bool) (mhp : Bool) (mcl : Bool) (mck : Bool) (mba : Nat) (mct : Nat) (x4 : Nat) (x5 : Nat) (x6 : Nat) (x7 : Nat) (x8 : Nat) (mst : Nat) (x9 : Nat) (x10 : Nat) (x11 : Nat) (x12 : Nat) (mtr : Nat) (mrs : Nat) (x13 : Nat) (x14 : Nat) (x15 : Nat) (x16 : Nat) (mwr : Nat) (x17 : Nat) (mfo : Nat) (k : Nat)  : Met l yn_Mo_refuse (Cond.code yn_Mo_refuse bc_Mo_refuse 2 (some .int) :: kx_all) ({ frames := 0, cells := 0, slots := 0, locals := 0 } : Room) (kp [.ref o, .int (nI k)] D cI cZ [mo_c o mth mty x0 mat mfr mto mgd mrd x1 x2 x3 mhf mhp mcl mck mba mct x4 x5 x6 x7 x8 mst x9 x10 x11 x12 mtr mrs x13 x14 x15 x16 mwr x17 mfo] sz) (kw_q (some (.int (nI 0))) D kc_l [mo_c o k mty x0 mat mfr mto mgd mrd x1 x2 x3 mhf mhp mcl mck mba mct x4 x5 x6 x7 x8 mst x9 x10 x11 x12 mtr mrs x13 x14 x15 x16 mwr x17 mfo] (va_A [mo_c o mth mty x0 mat mfr mto mgd mrd x1 x2 x3 mhf mhp mcl mck mba mct x4 x5 x6 x7 x8 mst x9 x10 x11 x12 mtr mrs x13 x14 x15 x16 mwr x17 mfo] sz)) 0 0 (va_A [mo_c o mth mty x0 mat mfr mto mgd mrd x1 x2 x3 mhf mhp mcl mck mba mct x4 x5 x6 x7 x8 mst x9 x10 x11 x12 mtr mrs x13 x14 x15 x16 mwr x17 mfo] sz) := by
  refine kx_metW (by decide) (Nat.le_of_ble_eq_true rfl) ?_
  intro p e s m below meth c ls A hx hb hr hml hts hown hlocks hin hA hP hK hD hN hl hS
  have hown : s.vm.findClass rn_Mo = some m.cls := hown
  have hl : lv_has ls 2 [(0, .ref o), (1, .int (nI k))] := hl
  refine lv_aload_n hx hb dc_Mo_refuse_0 rfl (lv_at hl 0 rfl) ?_
  refine lv_iload_n hx hb dc_Mo_refuse_1 rfl (lv_at hl 1 rfl) ?_
  refine va_put (ci := 10) (v := .int (nI k)) (ty := .int) (C := rn_Mo) (T := fd_Mo) (N := 36) hx hb hts in_Mo ty_Mo tk_Mo nm_Mo hown hK hP hD hS 0 rfl rfl 0 (by decide) (hts _ wd_746) (fun _ h9 => h9) rfl (by decide +kernel) rfl rfl (Nat.le_of_ble_eq_true rfl) dc_Mo_refuse_2 (fun H locs hP hD hS => ?_)
  have hP : va_P D kc_l [mo_c o k mty x0 mat mfr mto mgd mrd x1 x2 x3 mhf mhp mcl mck mba mct x4 x5 x6 x7 x8 mst x9 x10 x11 x12 mtr mrs x13 x14 x15 x16 mwr x17 mfo] H := hP
  have hD : va_D A [mo_c o k mty x0 mat mfr mto mgd mrd x1 x2 x3 mhf mhp mcl mck mba mct x4 x5 x6 x7 x8 mst x9 x10 x11 x12 mtr mrs x13 x14 x15 x16 mwr x17 mfo] := hD
  refine lv_iconst (v := nI 0) hx hb dc_Mo_refuse_5 (by decide +kernel) ?_
  exact kw_iret hx hb hr hlocks hP hD hS dc_Mo_refuse_6 (rfl) (rfl)

set_option maxHeartbeats 4000000 in
set_option maxRecDepth 100000 in
theorem ct_Mo_wipe (l : Launch) (D : va_G) (cI cZ : ClassId) (sz : Nat) (o : Nat) (mth : Nat) (mty : Nat) (x0 : Nat) (mat : Nat) (mfr : Nat) (mto : Nat) (mgd : Bool) (mrd : Nat) (x1 : Nat) (x2 : Nat) (x3 : Nat) (mhf : Bool) (mhp : Bool) (mcl : Bool) (mck : Bool) (mba : Nat) (mct : Nat) (x4 : Nat) (x5 : Nat) (x6 : Nat) (x7 : Nat) (x8 : Nat) (mst : Nat) (x9 : Nat) (x10 : Nat) (x11 : Nat) (x12 : Nat) (mtr : Nat) (mrs : Nat) (x13 : Nat) (x14 : Nat) (x15 : Nat) (x16 : Nat) (mwr : Nat) (x17 : Nat) (mfo : Nat)  : Met l yn_Mo_wipe (Cond.code yn_Mo_wipe bc_Mo_wipe 2 (some .int) :: kx_all) ({ frames := 0, cells := 0, slots := 0, locals := 0 } : Room) (kp [.ref o] D cI cZ [mo_c o mth mty x0 mat mfr mto mgd mrd x1 x2 x3 mhf mhp mcl mck mba mct x4 x5 x6 x7 x8 mst x9 x10 x11 x12 mtr mrs x13 x14 x15 x16 mwr x17 mfo] sz) (kw_q (some (.int (nI mty))) D kc_l [mo_c o 0 0 x0 mat mfr mto mgd mrd x1 x2 x3 mhf mhp mcl mck mba mct x4 x5 x6 x7 x8 mst x9 x10 x11 x12 mtr mrs x13 x14 x15 x16 mwr x17 mfo] (va_A [mo_c o mth mty x0 mat mfr mto mgd mrd x1 x2 x3 mhf mhp mcl mck mba mct x4 x5 x6 x7 x8 mst x9 x10 x11 x12 mtr mrs x13 x14 x15 x16 mwr x17 mfo] sz)) 0 0 (va_A [mo_c o mth mty x0 mat mfr mto mgd mrd x1 x2 x3 mhf mhp mcl mck mba mct x4 x5 x6 x7 x8 mst x9 x10 x11 x12 mtr mrs x13 x14 x15 x16 mwr x17 mfo] sz) := by
  refine kx_metW (by decide) (Nat.le_of_ble_eq_true rfl) ?_
  intro p e s m below meth c ls A hx hb hr hml hts hown hlocks hin hA hP hK hD hN hl hS
  have hown : s.vm.findClass rn_Mo = some m.cls := hown
  have hl : lv_has ls 2 [(0, .ref o)] := hl
  refine lv_aload_n hx hb dc_Mo_wipe_0 rfl (lv_at hl 0 rfl) ?_
  refine lv_iconst (v := nI 0) hx hb dc_Mo_wipe_1 (by decide +kernel) ?_
  refine va_put (ci := 10) (v := .int (nI 0)) (ty := .int) (C := rn_Mo) (T := fd_Mo) (N := 36) hx hb hts in_Mo ty_Mo tk_Mo nm_Mo hown hK hP hD hS 0 rfl rfl 0 (by decide) (hts _ wd_746) (fun _ h9 => h9) rfl (by decide +kernel) rfl rfl (Nat.le_of_ble_eq_true rfl) dc_Mo_wipe_2 (fun H locs hP hD hS => ?_)
  have hP : va_P D kc_l [mo_c o 0 mty x0 mat mfr mto mgd mrd x1 x2 x3 mhf mhp mcl mck mba mct x4 x5 x6 x7 x8 mst x9 x10 x11 x12 mtr mrs x13 x14 x15 x16 mwr x17 mfo] H := hP
  have hD : va_D A [mo_c o 0 mty x0 mat mfr mto mgd mrd x1 x2 x3 mhf mhp mcl mck mba mct x4 x5 x6 x7 x8 mst x9 x10 x11 x12 mtr mrs x13 x14 x15 x16 mwr x17 mfo] := hD
  refine lv_aload_n hx hb dc_Mo_wipe_5 rfl (lv_at hl 0 rfl) ?_
  refine va_get (ci := 10) (v := .int (nI mty)) (C := rn_Mo) (T := fd_Mo) (N := 36) hx hb hts in_Mo hown hK hP 0 rfl rfl 1 (by decide) (hts _ wd_747) (fun _ h9 => h9) rfl dc_Mo_wipe_6 ?_
  refine lv_istore_n (lv' := [(1, .int (nI mty)), (0, .ref o)]) hx hb dc_Mo_wipe_9 rfl hl (by decide) rfl (fun ls hl => ?_)
  refine lv_aload_n hx hb dc_Mo_wipe_10 rfl (lv_at hl 1 rfl) ?_
  refine lv_iconst (v := nI 0) hx hb dc_Mo_wipe_11 (by decide +kernel) ?_
  refine va_put (ci := 10) (v := .int (nI 0)) (ty := .int) (C := rn_Mo) (T := fd_Mo) (N := 36) hx hb hts in_Mo ty_Mo tk_Mo nm_Mo hown hK hP hD hS 0 rfl rfl 1 (by decide) (hts _ wd_747) (fun _ h9 => h9) rfl (by decide +kernel) rfl rfl (Nat.le_of_ble_eq_true rfl) dc_Mo_wipe_12 (fun H locs hP hD hS => ?_)
  have hP : va_P D kc_l [mo_c o 0 0 x0 mat mfr mto mgd mrd x1 x2 x3 mhf mhp mcl mck mba mct x4 x5 x6 x7 x8 mst x9 x10 x11 x12 mtr mrs x13 x14 x15 x16 mwr x17 mfo] H := hP
  have hD : va_D A [mo_c o 0 0 x0 mat mfr mto mgd mrd x1 x2 x3 mhf mhp mcl mck mba mct x4 x5 x6 x7 x8 mst x9 x10 x11 x12 mtr mrs x13 x14 x15 x16 mwr x17 mfo] := hD
  refine lv_iload_n hx hb dc_Mo_wipe_15 rfl (lv_at hl 0 rfl) ?_
  exact kw_iret hx hb hr hlocks hP hD hS dc_Mo_wipe_16 (rfl) (rfl)

set_option maxHeartbeats 4000000 in
set_option maxRecDepth 100000 in
theorem ct_Mo_clauses (l : Launch) (D : va_G) (cI cZ : ClassId) (sz : Nat) (o : Nat) (mth : Nat) (mty : Nat) (x0 : Nat) (mat : Nat) (mfr : Nat) (mto : Nat) (mgd : Bool) (mrd : Nat) (x1 : Nat) (x2 : Nat) (x3 : Nat) (mhf : Bool) (mhp : Bool) (mcl : Bool) (mck : Bool) (mba : Nat) (mct : Nat) (x4 : Nat) (x5 : Nat) (x6 : Nat) (x7 : Nat) (x8 : Nat) (mst : Nat) (x9 : Nat) (x10 : Nat) (x11 : Nat) (x12 : Nat) (mtr : Nat) (mrs : Nat) (x13 : Nat) (x14 : Nat) (x15 : Nat) (x16 : Nat) (mwr : Nat) (x17 : Nat) (mfo : Nat)  : Met l yn_Mo_clauses (Cond.code yn_Mo_clauses bc_Mo_clauses 1 (some .int) :: kx_all) ({ frames := 0, cells := 0, slots := 0, locals := 0 } : Room) (kp [.ref o] D cI cZ [mo_c o mth mty x0 mat mfr mto mgd mrd x1 x2 x3 mhf mhp mcl mck mba mct x4 x5 x6 x7 x8 mst x9 x10 x11 x12 mtr mrs x13 x14 x15 x16 mwr x17 mfo] sz) (kw_q (some (.int (nI mct))) D kc_l [mo_c o 0 mty x0 mat mfr mto mgd mrd x1 x2 x3 mhf mhp mcl mck mba mct x4 x5 x6 x7 x8 mst x9 x10 x11 x12 mtr mrs x13 x14 x15 x16 mwr x17 mfo] (va_A [mo_c o mth mty x0 mat mfr mto mgd mrd x1 x2 x3 mhf mhp mcl mck mba mct x4 x5 x6 x7 x8 mst x9 x10 x11 x12 mtr mrs x13 x14 x15 x16 mwr x17 mfo] sz)) 0 0 (va_A [mo_c o mth mty x0 mat mfr mto mgd mrd x1 x2 x3 mhf mhp mcl mck mba mct x4 x5 x6 x7 x8 mst x9 x10 x11 x12 mtr mrs x13 x14 x15 x16 mwr x17 mfo] sz) := by
  refine kx_metW (by decide) (Nat.le_of_ble_eq_true rfl) ?_
  intro p e s m below meth c ls A hx hb hr hml hts hown hlocks hin hA hP hK hD hN hl hS
  have hown : s.vm.findClass rn_Mo = some m.cls := hown
  have hl : lv_has ls 1 [(0, .ref o)] := hl
  refine lv_aload_n hx hb dc_Mo_clauses_0 rfl (lv_at hl 0 rfl) ?_
  refine lv_iconst (v := nI 0) hx hb dc_Mo_clauses_1 (by decide +kernel) ?_
  refine va_put (ci := 10) (v := .int (nI 0)) (ty := .int) (C := rn_Mo) (T := fd_Mo) (N := 36) hx hb hts in_Mo ty_Mo tk_Mo nm_Mo hown hK hP hD hS 0 rfl rfl 0 (by decide) (hts _ wd_746) (fun _ h9 => h9) rfl (by decide +kernel) rfl rfl (Nat.le_of_ble_eq_true rfl) dc_Mo_clauses_2 (fun H locs hP hD hS => ?_)
  have hP : va_P D kc_l [mo_c o 0 mty x0 mat mfr mto mgd mrd x1 x2 x3 mhf mhp mcl mck mba mct x4 x5 x6 x7 x8 mst x9 x10 x11 x12 mtr mrs x13 x14 x15 x16 mwr x17 mfo] H := hP
  have hD : va_D A [mo_c o 0 mty x0 mat mfr mto mgd mrd x1 x2 x3 mhf mhp mcl mck mba mct x4 x5 x6 x7 x8 mst x9 x10 x11 x12 mtr mrs x13 x14 x15 x16 mwr x17 mfo] := hD
  refine lv_aload_n hx hb dc_Mo_clauses_5 rfl (lv_at hl 0 rfl) ?_
  refine va_get (ci := 10) (v := .int (nI mct)) (C := rn_Mo) (T := fd_Mo) (N := 36) hx hb hts in_Mo hown hK hP 0 rfl rfl 16 (by decide) (hts _ wd_762) (fun _ h9 => h9) rfl dc_Mo_clauses_6 ?_
  exact kw_iret hx hb hr hlocks hP hD hS dc_Mo_clauses_9 (rfl) (rfl)

set_option maxHeartbeats 4000000 in
set_option maxRecDepth 100000 in
theorem ct_Mo_isGap (l : Launch) (D : va_G) (cI cZ : ClassId) (sz : Nat) (x : Nat) (hx : x < 2 ^ 31) : Met l yn_Mo_isGap (Cond.code yn_Mo_isGap bc_Mo_isGap 1 (some .boolean) :: kx_all) ({ frames := 0, cells := 0, slots := 0, locals := 0 } : Room) (kp [.int (nI x)] D cI cZ [] sz) (kr_q (some (.int (kb_i (pt_gap x))))) 0 0 (fun _ => False) := by
  refine kx_met (by decide) (Nat.le_of_ble_eq_true rfl) ?_
  intro p e s m below meth c ls hx hb hr hml hts hown hlocks hin hsz hP hK hD hN hl
  have hown : s.vm.findClass rn_Mo = some m.cls := hown
  have hl : lv_has ls 1 [(0, .int (nI x))] := hl
  refine lv_iload_n hx hb dc_Mo_isGap_0 rfl (lv_at hl 0 rfl) ?_
  refine lv_bipush (v := nI 32) hx hb dc_Mo_isGap_1 (by decide +kernel) ?_
  refine kn_icmp_eq hx hb (by omega) (by omega) dc_Mo_isGap_3 rfl (fun hc3 => ?_) (fun hc3 => ?_)
  · refine lv_iconst (v := nI 1) hx hb dc_Mo_isGap_12 (by decide +kernel) ?_
    refine lv_goto hx hb dc_Mo_isGap_13 rfl ?_
    refine kn_top (y := kb_i true) (by decide +kernel) ?_
    exact kr_zret hx hb hr hlocks dc_Mo_isGap_17 (by rw [gap_v, decide_eq_true hc3]; rfl)
  · refine lv_iload_n hx hb dc_Mo_isGap_6 rfl (lv_at hl 0 rfl) ?_
    refine lv_bipush (v := nI 10) hx hb dc_Mo_isGap_7 (by decide +kernel) ?_
    refine kn_icmp_ne hx hb (by omega) (by omega) dc_Mo_isGap_9 rfl (fun hc9 => ?_) (fun hc9 => ?_)
    · refine lv_iconst (v := nI 0) hx hb dc_Mo_isGap_16 (by decide +kernel) ?_
      refine kn_top (y := kb_i false) (by decide +kernel) ?_
      exact kr_zret hx hb hr hlocks dc_Mo_isGap_17 (by rw [gap_v, decide_eq_false hc3, decide_eq_false hc9]; rfl)
    · refine lv_iconst (v := nI 1) hx hb dc_Mo_isGap_12 (by decide +kernel) ?_
      refine lv_goto hx hb dc_Mo_isGap_13 rfl ?_
      refine kn_top (y := kb_i true) (by decide +kernel) ?_
      exact kr_zret hx hb hr hlocks dc_Mo_isGap_17 (by rw [gap_v, decide_eq_true hc9, Bool.or_true])

set_option maxHeartbeats 4000000 in
set_option maxRecDepth 100000 in
theorem ct_Mo_word (l : Launch) (D : va_G) (cI cZ : ClassId) (sz : Nat) (o : Nat) (mth : Nat) (mty : Nat) (x0 : Nat) (mat : Nat) (mfr : Nat) (mto : Nat) (mgd : Bool) (mrd : Nat) (x1 : Nat) (x2 : Nat) (x3 : Nat) (mhf : Bool) (mhp : Bool) (mcl : Bool) (mck : Bool) (mba : Nat) (mct : Nat) (x4 : Nat) (x5 : Nat) (x6 : Nat) (x7 : Nat) (x8 : Nat) (mst : Nat) (x9 : Nat) (x10 : Nat) (x11 : Nat) (x12 : Nat) (mtr : Nat) (mrs : Nat) (x13 : Nat) (x14 : Nat) (x15 : Nat) (x16 : Nat) (mwr : Nat) (x17 : Nat) (mfo : Nat) (t : Nat → Nat) (hty : mty ≤ 250) (hat : mat ≤ mty) (ht : ∀ j, t j < 256) : Met l yn_Mo_word (Cond.code yn_Mo_word bc_Mo_word 1 (some .boolean) :: kx_all) ({ frames := 1, cells := 0, slots := 0, locals := 20 } : Room) (kp [.ref o] D cI cZ [mo_c o mth mty x0 mat mfr mto mgd mrd x1 x2 x3 mhf mhp mcl mck mba mct x4 x5 x6 x7 x8 mst x9 x10 x11 x12 mtr mrs x13 x14 x15 x16 mwr x17 mfo, ar_n cI x0 250 t] sz) (kw_q (some (.int (kb_i (decide (pt_ws t mty mat < pt_zz t mty mat))))) D kc_l [mo_c o mth mty x0 (pt_zz t mty mat) (pt_ws t mty mat) (pt_zz t mty mat) mgd mrd x1 x2 x3 mhf mhp mcl mck mba mct x4 x5 x6 x7 x8 mst x9 x10 x11 x12 mtr mrs x13 x14 x15 x16 mwr x17 mfo, ar_n cI x0 250 t] (va_A [mo_c o mth mty x0 mat mfr mto mgd mrd x1 x2 x3 mhf mhp mcl mck mba mct x4 x5 x6 x7 x8 mst x9 x10 x11 x12 mtr mrs x13 x14 x15 x16 mwr x17 mfo, ar_n cI x0 250 t] sz)) 0 0 (va_A [mo_c o mth mty x0 mat mfr mto mgd mrd x1 x2 x3 mhf mhp mcl mck mba mct x4 x5 x6 x7 x8 mst x9 x10 x11 x12 mtr mrs x13 x14 x15 x16 mwr x17 mfo, ar_n cI x0 250 t] sz) := by
  refine kx_metW (by decide) (Nat.le_of_ble_eq_true rfl) ?_
  intro p e s m below meth c ls A hx hb hr hml hts hown hlocks hin hA hP hK hD hN hl hS
  have hown : s.vm.findClass rn_Mo = some m.cls := hown
  have hl : lv_has ls 1 [(0, .ref o)] := hl
  have lp_0 : ∀ (K : Nat) (a1 : Nat) (H : Heap) (locs : List Loc) (ls : Array Slot), mty - a1 < K → va_P D kc_l [mo_c o mth mty x0 a1 mfr mto mgd mrd x1 x2 x3 mhf mhp mcl mck mba mct x4 x5 x6 x7 x8 mst x9 x10 x11 x12 mtr mrs x13 x14 x15 x16 mwr x17 mfo, ar_n cI x0 250 t] H → va_D A [mo_c o mth mty x0 a1 mfr mto mgd mrd x1 x2 x3 mhf mhp mcl mck mba mct x4 x5 x6 x7 x8 mst x9 x10 x11 x12 mtr mrs x13 x14 x15 x16 mwr x17 mfo, ar_n cI x0 250 t] → va_S A s.heap H locs → lv_has ls 1 [(0, .ref o)] → (pt_ws t mty a1 = pt_ws t mty mat) → (a1 ≤ mty) → W p l e ({ frames := 1, cells := 0, slots := 0, locals := 20 } : Room) s m ([.ref o] : List Value).toArray below meth c H locs 0 0 (MQ below (kw_q (some (.int (kb_i (decide (pt_ws t mty mat < pt_zz t mty mat))))) D kc_l [mo_c o mth mty x0 (pt_zz t mty mat) (pt_ws t mty mat) (pt_zz t mty mat) mgd mrd x1 x2 x3 mhf mhp mcl mck mba mct x4 x5 x6 x7 x8 mst x9 x10 x11 x12 mtr mrs x13 x14 x15 x16 mwr x17 mfo, ar_n cI x0 250 t] A) ([.ref o] : List Value).toArray s 0 0 A) (F0 m 0 ls []) := by
    intro K
    induction K with
    | zero =>
      intro a1 H locs ls hk
      exact absurd hk (Nat.not_lt_zero _)
    | succ K ih =>
      intro a1 H locs ls hk hP hD hS hl h1 h2
      refine lv_aload_n hx hb dc_Mo_word_0 rfl (lv_at hl 0 rfl) ?_
      refine va_get (ci := 10) (v := .int (nI a1)) (C := rn_Mo) (T := fd_Mo) (N := 36) hx hb hts in_Mo hown hK hP 0 rfl rfl 3 (by decide) (hts _ wd_749) (fun _ h9 => h9) rfl dc_Mo_word_1 ?_
      refine lv_aload_n hx hb dc_Mo_word_4 rfl (lv_at hl 0 rfl) ?_
      refine va_get (ci := 10) (v := .int (nI mty)) (C := rn_Mo) (T := fd_Mo) (N := 36) hx hb hts in_Mo hown hK hP 0 rfl rfl 1 (by decide) (hts _ wd_747) (fun _ h9 => h9) rfl dc_Mo_word_5 ?_
      refine kn_icmp_ge hx hb (by omega) (by omega) dc_Mo_word_8 rfl (fun hc8 => ?_) (fun hc8 => ?_)
      · have hz1 : a1 = pt_ws t mty mat := by rw [← h1, ws_stop (fun q => by omega)]
        have hwn := ws_le (t := t) hat
        rw [hz1] at hP hD
        refine lv_aload_n hx hb dc_Mo_word_39 rfl (lv_at hl 0 rfl) ?_
        refine lv_aload_n hx hb dc_Mo_word_40 rfl (lv_at hl 0 rfl) ?_
        refine va_get (ci := 10) (v := .int (nI (pt_ws t mty mat))) (C := rn_Mo) (T := fd_Mo) (N := 36) hx hb hts in_Mo hown hK hP 0 rfl rfl 3 (by decide) (hts _ wd_749) (fun _ h9 => h9) rfl dc_Mo_word_41 ?_
        refine va_put (ci := 10) (v := .int (nI (pt_ws t mty mat))) (ty := .int) (C := rn_Mo) (T := fd_Mo) (N := 36) hx hb hts in_Mo ty_Mo tk_Mo nm_Mo hown hK hP hD hS 0 rfl rfl 4 (by decide) (hts _ wd_750) (fun _ h9 => h9) rfl (by decide +kernel) rfl rfl (Nat.le_of_ble_eq_true rfl) dc_Mo_word_44 (fun H locs hP hD hS => ?_)
        have hP : va_P D kc_l [mo_c o mth mty x0 (pt_ws t mty mat) (pt_ws t mty mat) mto mgd mrd x1 x2 x3 mhf mhp mcl mck mba mct x4 x5 x6 x7 x8 mst x9 x10 x11 x12 mtr mrs x13 x14 x15 x16 mwr x17 mfo, ar_n cI x0 250 t] H := hP
        have hD : va_D A [mo_c o mth mty x0 (pt_ws t mty mat) (pt_ws t mty mat) mto mgd mrd x1 x2 x3 mhf mhp mcl mck mba mct x4 x5 x6 x7 x8 mst x9 x10 x11 x12 mtr mrs x13 x14 x15 x16 mwr x17 mfo, ar_n cI x0 250 t] := hD
        have lp_47 : ∀ (K : Nat) (a2 : Nat) (H : Heap) (locs : List Loc) (ls : Array Slot), mty - a2 < K → va_P D kc_l [mo_c o mth mty x0 a2 (pt_ws t mty mat) mto mgd mrd x1 x2 x3 mhf mhp mcl mck mba mct x4 x5 x6 x7 x8 mst x9 x10 x11 x12 mtr mrs x13 x14 x15 x16 mwr x17 mfo, ar_n cI x0 250 t] H → va_D A [mo_c o mth mty x0 a2 (pt_ws t mty mat) mto mgd mrd x1 x2 x3 mhf mhp mcl mck mba mct x4 x5 x6 x7 x8 mst x9 x10 x11 x12 mtr mrs x13 x14 x15 x16 mwr x17 mfo, ar_n cI x0 250 t] → va_S A s.heap H locs → lv_has ls 1 [(0, .ref o)] → (pt_we t mty a2 = pt_zz t mty mat) → (a2 ≤ mty ∧ pt_ws t mty mat ≤ a2) → W p l e ({ frames := 1, cells := 0, slots := 0, locals := 20 } : Room) s m ([.ref o] : List Value).toArray below meth c H locs 0 0 (MQ below (kw_q (some (.int (kb_i (decide (pt_ws t mty mat < pt_zz t mty mat))))) D kc_l [mo_c o mth mty x0 (pt_zz t mty mat) (pt_ws t mty mat) (pt_zz t mty mat) mgd mrd x1 x2 x3 mhf mhp mcl mck mba mct x4 x5 x6 x7 x8 mst x9 x10 x11 x12 mtr mrs x13 x14 x15 x16 mwr x17 mfo, ar_n cI x0 250 t] A) ([.ref o] : List Value).toArray s 0 0 A) (F0 m 47 ls []) := by
          intro K
          induction K with
          | zero =>
            intro a2 H locs ls hk
            exact absurd hk (Nat.not_lt_zero _)
          | succ K ih =>
            intro a2 H locs ls hk hP hD hS hl h3 h4
            refine lv_aload_n hx hb dc_Mo_word_47 rfl (lv_at hl 0 rfl) ?_
            refine va_get (ci := 10) (v := .int (nI a2)) (C := rn_Mo) (T := fd_Mo) (N := 36) hx hb hts in_Mo hown hK hP 0 rfl rfl 3 (by decide) (hts _ wd_749) (fun _ h9 => h9) rfl dc_Mo_word_48 ?_
            refine lv_aload_n hx hb dc_Mo_word_51 rfl (lv_at hl 0 rfl) ?_
            refine va_get (ci := 10) (v := .int (nI mty)) (C := rn_Mo) (T := fd_Mo) (N := 36) hx hb hts in_Mo hown hK hP 0 rfl rfl 1 (by decide) (hts _ wd_747) (fun _ h9 => h9) rfl dc_Mo_word_52 ?_
            refine kn_icmp_ge hx hb (by omega) (by omega) dc_Mo_word_55 rfl (fun hc55 => ?_) (fun hc55 => ?_)
            · have hz2 : a2 = pt_zz t mty mat := by rw [← h3, we_stop (fun q => by omega)]
              rw [hz2] at hP hD h4
              refine lv_aload_n hx hb dc_Mo_word_86 rfl (lv_at hl 0 rfl) ?_
              refine lv_aload_n hx hb dc_Mo_word_87 rfl (lv_at hl 0 rfl) ?_
              refine va_get (ci := 10) (v := .int (nI (pt_zz t mty mat))) (C := rn_Mo) (T := fd_Mo) (N := 36) hx hb hts in_Mo hown hK hP 0 rfl rfl 3 (by decide) (hts _ wd_749) (fun _ h9 => h9) rfl dc_Mo_word_88 ?_
              refine va_put (ci := 10) (v := .int (nI (pt_zz t mty mat))) (ty := .int) (C := rn_Mo) (T := fd_Mo) (N := 36) hx hb hts in_Mo ty_Mo tk_Mo nm_Mo hown hK hP hD hS 0 rfl rfl 5 (by decide) (hts _ wd_751) (fun _ h9 => h9) rfl (by decide +kernel) rfl rfl (Nat.le_of_ble_eq_true rfl) dc_Mo_word_91 (fun H locs hP hD hS => ?_)
              have hP : va_P D kc_l [mo_c o mth mty x0 (pt_zz t mty mat) (pt_ws t mty mat) (pt_zz t mty mat) mgd mrd x1 x2 x3 mhf mhp mcl mck mba mct x4 x5 x6 x7 x8 mst x9 x10 x11 x12 mtr mrs x13 x14 x15 x16 mwr x17 mfo, ar_n cI x0 250 t] H := hP
              have hD : va_D A [mo_c o mth mty x0 (pt_zz t mty mat) (pt_ws t mty mat) (pt_zz t mty mat) mgd mrd x1 x2 x3 mhf mhp mcl mck mba mct x4 x5 x6 x7 x8 mst x9 x10 x11 x12 mtr mrs x13 x14 x15 x16 mwr x17 mfo, ar_n cI x0 250 t] := hD
              refine lv_aload_n hx hb dc_Mo_word_94 rfl (lv_at hl 0 rfl) ?_
              refine va_get (ci := 10) (v := .int (nI (pt_zz t mty mat))) (C := rn_Mo) (T := fd_Mo) (N := 36) hx hb hts in_Mo hown hK hP 0 rfl rfl 5 (by decide) (hts _ wd_751) (fun _ h9 => h9) rfl dc_Mo_word_95 ?_
              refine lv_aload_n hx hb dc_Mo_word_98 rfl (lv_at hl 0 rfl) ?_
              refine va_get (ci := 10) (v := .int (nI (pt_ws t mty mat))) (C := rn_Mo) (T := fd_Mo) (N := 36) hx hb hts in_Mo hown hK hP 0 rfl rfl 4 (by decide) (hts _ wd_750) (fun _ h9 => h9) rfl dc_Mo_word_99 ?_
              refine kn_icmp_le hx hb (by omega) (by omega) dc_Mo_word_102 rfl (fun hc102 => ?_) (fun hc102 => ?_)
              · refine lv_iconst (v := nI 0) hx hb dc_Mo_word_109 (by decide +kernel) ?_
                refine kn_top (y := kb_i false) (by decide +kernel) ?_
                exact kw_zret hx hb hr hlocks hP hD hS dc_Mo_word_110 ((decide_eq_false (by omega)).symm) (rfl)
              · refine lv_iconst (v := nI 1) hx hb dc_Mo_word_105 (by decide +kernel) ?_
                refine lv_goto hx hb dc_Mo_word_106 rfl ?_
                refine kn_top (y := kb_i true) (by decide +kernel) ?_
                exact kw_zret hx hb hr hlocks hP hD hS dc_Mo_word_110 ((decide_eq_true (by omega)).symm) (rfl)
            · refine lv_aload_n hx hb dc_Mo_word_58 rfl (lv_at hl 0 rfl) ?_
              refine va_get (ci := 10) (v := .ref x0) (C := rn_Mo) (T := fd_Mo) (N := 36) hx hb hts in_Mo hown hK hP 0 rfl rfl 2 (by decide) (hts _ wd_748) (fun _ h9 => h9) rfl dc_Mo_word_59 ?_
              refine lv_aload_n hx hb dc_Mo_word_62 rfl (lv_at hl 0 rfl) ?_
              refine va_get (ci := 10) (v := .int (nI a2)) (C := rn_Mo) (T := fd_Mo) (N := 36) hx hb hts in_Mo hown hK hP 0 rfl rfl 3 (by decide) (hts _ wd_749) (fun _ h9 => h9) rfl dc_Mo_word_63 ?_
              refine ka_nald (t := t) hx hb hK hP 1 0 rfl rfl (j := a2) (by omega) (by omega) dc_Mo_word_66 ?_
              refine kr_call1 (va_runS (As := [.int (nI (t a2))]) (rest := []) ⟨hx, hb, hml, hown, hts⟩ (ct_Mo_isGap l D cI cZ _ (t a2) (Nat.lt_trans (ht a2) (by decide))) (cwS 1 hts (kx_gS wd_880 wd_881 wd_9 wd_882) rfl rfl rfl ⟨rfl, yd_Mo_isGap⟩ ⟨Nat.le_of_ble_eq_true rfl, Nat.le_of_ble_eq_true rfl⟩) (kp_S hP hD hK hN [] rfl rfl) rfl rfl hl.1 rfl (lv_room (Nat.le_of_ble_eq_true rfl)) dc_Mo_word_67 ⟨Nat.le_of_ble_eq_true rfl, Nat.le_of_ble_eq_true rfl⟩) ?_
              refine kb_if_ne hx hb dc_Mo_word_70 rfl (fun hc70 => ?_) (fun hc70 => ?_)
              · have hz2 : a2 = pt_zz t mty mat := by rw [← h3, we_stop (fun q => by rw [hc70] at q; exact absurd q.2 (by decide))]
                rw [hz2] at hP hD h4
                refine lv_aload_n hx hb dc_Mo_word_86 rfl (lv_at hl 0 rfl) ?_
                refine lv_aload_n hx hb dc_Mo_word_87 rfl (lv_at hl 0 rfl) ?_
                refine va_get (ci := 10) (v := .int (nI (pt_zz t mty mat))) (C := rn_Mo) (T := fd_Mo) (N := 36) hx hb hts in_Mo hown hK hP 0 rfl rfl 3 (by decide) (hts _ wd_749) (fun _ h9 => h9) rfl dc_Mo_word_88 ?_
                refine va_put (ci := 10) (v := .int (nI (pt_zz t mty mat))) (ty := .int) (C := rn_Mo) (T := fd_Mo) (N := 36) hx hb hts in_Mo ty_Mo tk_Mo nm_Mo hown hK hP hD hS 0 rfl rfl 5 (by decide) (hts _ wd_751) (fun _ h9 => h9) rfl (by decide +kernel) rfl rfl (Nat.le_of_ble_eq_true rfl) dc_Mo_word_91 (fun H locs hP hD hS => ?_)
                have hP : va_P D kc_l [mo_c o mth mty x0 (pt_zz t mty mat) (pt_ws t mty mat) (pt_zz t mty mat) mgd mrd x1 x2 x3 mhf mhp mcl mck mba mct x4 x5 x6 x7 x8 mst x9 x10 x11 x12 mtr mrs x13 x14 x15 x16 mwr x17 mfo, ar_n cI x0 250 t] H := hP
                have hD : va_D A [mo_c o mth mty x0 (pt_zz t mty mat) (pt_ws t mty mat) (pt_zz t mty mat) mgd mrd x1 x2 x3 mhf mhp mcl mck mba mct x4 x5 x6 x7 x8 mst x9 x10 x11 x12 mtr mrs x13 x14 x15 x16 mwr x17 mfo, ar_n cI x0 250 t] := hD
                refine lv_aload_n hx hb dc_Mo_word_94 rfl (lv_at hl 0 rfl) ?_
                refine va_get (ci := 10) (v := .int (nI (pt_zz t mty mat))) (C := rn_Mo) (T := fd_Mo) (N := 36) hx hb hts in_Mo hown hK hP 0 rfl rfl 5 (by decide) (hts _ wd_751) (fun _ h9 => h9) rfl dc_Mo_word_95 ?_
                refine lv_aload_n hx hb dc_Mo_word_98 rfl (lv_at hl 0 rfl) ?_
                refine va_get (ci := 10) (v := .int (nI (pt_ws t mty mat))) (C := rn_Mo) (T := fd_Mo) (N := 36) hx hb hts in_Mo hown hK hP 0 rfl rfl 4 (by decide) (hts _ wd_750) (fun _ h9 => h9) rfl dc_Mo_word_99 ?_
                refine kn_icmp_le hx hb (by omega) (by omega) dc_Mo_word_102 rfl (fun hc102 => ?_) (fun hc102 => ?_)
                · refine lv_iconst (v := nI 0) hx hb dc_Mo_word_109 (by decide +kernel) ?_
                  refine kn_top (y := kb_i false) (by decide +kernel) ?_
                  exact kw_zret hx hb hr hlocks hP hD hS dc_Mo_word_110 ((decide_eq_false (by omega)).symm) (rfl)
                · refine lv_iconst (v := nI 1) hx hb dc_Mo_word_105 (by decide +kernel) ?_
                  refine lv_goto hx hb dc_Mo_word_106 rfl ?_
                  refine kn_top (y := kb_i true) (by decide +kernel) ?_
                  exact kw_zret hx hb hr hlocks hP hD hS dc_Mo_word_110 ((decide_eq_true (by omega)).symm) (rfl)
              · refine lv_aload_n hx hb dc_Mo_word_73 rfl (lv_at hl 0 rfl) ?_
                refine lv_dup hx hb dc_Mo_word_74 rfl ?_
                refine va_get (ci := 10) (v := .int (nI a2)) (C := rn_Mo) (T := fd_Mo) (N := 36) hx hb hts in_Mo hown hK hP 0 rfl rfl 3 (by decide) (hts _ wd_749) (fun _ h9 => h9) rfl dc_Mo_word_75 ?_
                refine lv_iconst (v := nI 1) hx hb dc_Mo_word_78 (by decide +kernel) ?_
                refine kn_iadd hx hb dc_Mo_word_79 ?_
                refine va_put (ci := 10) (v := .int (nI (a2 + 1))) (ty := .int) (C := rn_Mo) (T := fd_Mo) (N := 36) hx hb hts in_Mo ty_Mo tk_Mo nm_Mo hown hK hP hD hS 0 rfl rfl 3 (by decide) (hts _ wd_749) (fun _ h9 => h9) rfl (by decide +kernel) rfl rfl (Nat.le_of_ble_eq_true rfl) dc_Mo_word_80 (fun H locs hP hD hS => ?_)
                have hP : va_P D kc_l [mo_c o mth mty x0 (a2 + 1) (pt_ws t mty mat) mto mgd mrd x1 x2 x3 mhf mhp mcl mck mba mct x4 x5 x6 x7 x8 mst x9 x10 x11 x12 mtr mrs x13 x14 x15 x16 mwr x17 mfo, ar_n cI x0 250 t] H := hP
                have hD : va_D A [mo_c o mth mty x0 (a2 + 1) (pt_ws t mty mat) mto mgd mrd x1 x2 x3 mhf mhp mcl mck mba mct x4 x5 x6 x7 x8 mst x9 x10 x11 x12 mtr mrs x13 x14 x15 x16 mwr x17 mfo, ar_n cI x0 250 t] := hD
                refine lv_goto hx hb dc_Mo_word_83 rfl ?_
                exact ih _ _ _ _ (by omega) hP hD hS hl (by rw [← h3]; exact (we_step (by omega) (by rw [hc70]; rfl)).symm) (⟨by omega, by omega⟩)
        exact lp_47 _ _ _ _ _ (Nat.lt_succ_self _) hP hD hS hl (rfl) (⟨by omega, by omega⟩)
      · refine lv_aload_n hx hb dc_Mo_word_11 rfl (lv_at hl 0 rfl) ?_
        refine va_get (ci := 10) (v := .ref x0) (C := rn_Mo) (T := fd_Mo) (N := 36) hx hb hts in_Mo hown hK hP 0 rfl rfl 2 (by decide) (hts _ wd_748) (fun _ h9 => h9) rfl dc_Mo_word_12 ?_
        refine lv_aload_n hx hb dc_Mo_word_15 rfl (lv_at hl 0 rfl) ?_
        refine va_get (ci := 10) (v := .int (nI a1)) (C := rn_Mo) (T := fd_Mo) (N := 36) hx hb hts in_Mo hown hK hP 0 rfl rfl 3 (by decide) (hts _ wd_749) (fun _ h9 => h9) rfl dc_Mo_word_16 ?_
        refine ka_nald (t := t) hx hb hK hP 1 0 rfl rfl (j := a1) (by omega) (by omega) dc_Mo_word_19 ?_
        refine kr_call1 (va_runS (As := [.int (nI (t a1))]) (rest := []) ⟨hx, hb, hml, hown, hts⟩ (ct_Mo_isGap l D cI cZ _ (t a1) (Nat.lt_trans (ht a1) (by decide))) (cwS 1 hts (kx_gS wd_880 wd_881 wd_9 wd_882) rfl rfl rfl ⟨rfl, yd_Mo_isGap⟩ ⟨Nat.le_of_ble_eq_true rfl, Nat.le_of_ble_eq_true rfl⟩) (kp_S hP hD hK hN [] rfl rfl) rfl rfl hl.1 rfl (lv_room (Nat.le_of_ble_eq_true rfl)) dc_Mo_word_20 ⟨Nat.le_of_ble_eq_true rfl, Nat.le_of_ble_eq_true rfl⟩) ?_
        refine kb_if_eq hx hb dc_Mo_word_23 rfl (fun hc23 => ?_) (fun hc23 => ?_)
        · have hz1 : a1 = pt_ws t mty mat := by rw [← h1, ws_stop (fun q => by rw [hc23] at q; exact absurd q.2 (by decide))]
          have hwn := ws_le (t := t) hat
          rw [hz1] at hP hD
          refine lv_aload_n hx hb dc_Mo_word_39 rfl (lv_at hl 0 rfl) ?_
          refine lv_aload_n hx hb dc_Mo_word_40 rfl (lv_at hl 0 rfl) ?_
          refine va_get (ci := 10) (v := .int (nI (pt_ws t mty mat))) (C := rn_Mo) (T := fd_Mo) (N := 36) hx hb hts in_Mo hown hK hP 0 rfl rfl 3 (by decide) (hts _ wd_749) (fun _ h9 => h9) rfl dc_Mo_word_41 ?_
          refine va_put (ci := 10) (v := .int (nI (pt_ws t mty mat))) (ty := .int) (C := rn_Mo) (T := fd_Mo) (N := 36) hx hb hts in_Mo ty_Mo tk_Mo nm_Mo hown hK hP hD hS 0 rfl rfl 4 (by decide) (hts _ wd_750) (fun _ h9 => h9) rfl (by decide +kernel) rfl rfl (Nat.le_of_ble_eq_true rfl) dc_Mo_word_44 (fun H locs hP hD hS => ?_)
          have hP : va_P D kc_l [mo_c o mth mty x0 (pt_ws t mty mat) (pt_ws t mty mat) mto mgd mrd x1 x2 x3 mhf mhp mcl mck mba mct x4 x5 x6 x7 x8 mst x9 x10 x11 x12 mtr mrs x13 x14 x15 x16 mwr x17 mfo, ar_n cI x0 250 t] H := hP
          have hD : va_D A [mo_c o mth mty x0 (pt_ws t mty mat) (pt_ws t mty mat) mto mgd mrd x1 x2 x3 mhf mhp mcl mck mba mct x4 x5 x6 x7 x8 mst x9 x10 x11 x12 mtr mrs x13 x14 x15 x16 mwr x17 mfo, ar_n cI x0 250 t] := hD
          have lp_47 : ∀ (K : Nat) (a2 : Nat) (H : Heap) (locs : List Loc) (ls : Array Slot), mty - a2 < K → va_P D kc_l [mo_c o mth mty x0 a2 (pt_ws t mty mat) mto mgd mrd x1 x2 x3 mhf mhp mcl mck mba mct x4 x5 x6 x7 x8 mst x9 x10 x11 x12 mtr mrs x13 x14 x15 x16 mwr x17 mfo, ar_n cI x0 250 t] H → va_D A [mo_c o mth mty x0 a2 (pt_ws t mty mat) mto mgd mrd x1 x2 x3 mhf mhp mcl mck mba mct x4 x5 x6 x7 x8 mst x9 x10 x11 x12 mtr mrs x13 x14 x15 x16 mwr x17 mfo, ar_n cI x0 250 t] → va_S A s.heap H locs → lv_has ls 1 [(0, .ref o)] → (pt_we t mty a2 = pt_zz t mty mat) → (a2 ≤ mty ∧ pt_ws t mty mat ≤ a2) → W p l e ({ frames := 1, cells := 0, slots := 0, locals := 20 } : Room) s m ([.ref o] : List Value).toArray below meth c H locs 0 0 (MQ below (kw_q (some (.int (kb_i (decide (pt_ws t mty mat < pt_zz t mty mat))))) D kc_l [mo_c o mth mty x0 (pt_zz t mty mat) (pt_ws t mty mat) (pt_zz t mty mat) mgd mrd x1 x2 x3 mhf mhp mcl mck mba mct x4 x5 x6 x7 x8 mst x9 x10 x11 x12 mtr mrs x13 x14 x15 x16 mwr x17 mfo, ar_n cI x0 250 t] A) ([.ref o] : List Value).toArray s 0 0 A) (F0 m 47 ls []) := by
            intro K
            induction K with
            | zero =>
              intro a2 H locs ls hk
              exact absurd hk (Nat.not_lt_zero _)
            | succ K ih =>
              intro a2 H locs ls hk hP hD hS hl h3 h4
              refine lv_aload_n hx hb dc_Mo_word_47 rfl (lv_at hl 0 rfl) ?_
              refine va_get (ci := 10) (v := .int (nI a2)) (C := rn_Mo) (T := fd_Mo) (N := 36) hx hb hts in_Mo hown hK hP 0 rfl rfl 3 (by decide) (hts _ wd_749) (fun _ h9 => h9) rfl dc_Mo_word_48 ?_
              refine lv_aload_n hx hb dc_Mo_word_51 rfl (lv_at hl 0 rfl) ?_
              refine va_get (ci := 10) (v := .int (nI mty)) (C := rn_Mo) (T := fd_Mo) (N := 36) hx hb hts in_Mo hown hK hP 0 rfl rfl 1 (by decide) (hts _ wd_747) (fun _ h9 => h9) rfl dc_Mo_word_52 ?_
              refine kn_icmp_ge hx hb (by omega) (by omega) dc_Mo_word_55 rfl (fun hc55 => ?_) (fun hc55 => ?_)
              · have hz2 : a2 = pt_zz t mty mat := by rw [← h3, we_stop (fun q => by omega)]
                rw [hz2] at hP hD h4
                refine lv_aload_n hx hb dc_Mo_word_86 rfl (lv_at hl 0 rfl) ?_
                refine lv_aload_n hx hb dc_Mo_word_87 rfl (lv_at hl 0 rfl) ?_
                refine va_get (ci := 10) (v := .int (nI (pt_zz t mty mat))) (C := rn_Mo) (T := fd_Mo) (N := 36) hx hb hts in_Mo hown hK hP 0 rfl rfl 3 (by decide) (hts _ wd_749) (fun _ h9 => h9) rfl dc_Mo_word_88 ?_
                refine va_put (ci := 10) (v := .int (nI (pt_zz t mty mat))) (ty := .int) (C := rn_Mo) (T := fd_Mo) (N := 36) hx hb hts in_Mo ty_Mo tk_Mo nm_Mo hown hK hP hD hS 0 rfl rfl 5 (by decide) (hts _ wd_751) (fun _ h9 => h9) rfl (by decide +kernel) rfl rfl (Nat.le_of_ble_eq_true rfl) dc_Mo_word_91 (fun H locs hP hD hS => ?_)
                have hP : va_P D kc_l [mo_c o mth mty x0 (pt_zz t mty mat) (pt_ws t mty mat) (pt_zz t mty mat) mgd mrd x1 x2 x3 mhf mhp mcl mck mba mct x4 x5 x6 x7 x8 mst x9 x10 x11 x12 mtr mrs x13 x14 x15 x16 mwr x17 mfo, ar_n cI x0 250 t] H := hP
                have hD : va_D A [mo_c o mth mty x0 (pt_zz t mty mat) (pt_ws t mty mat) (pt_zz t mty mat) mgd mrd x1 x2 x3 mhf mhp mcl mck mba mct x4 x5 x6 x7 x8 mst x9 x10 x11 x12 mtr mrs x13 x14 x15 x16 mwr x17 mfo, ar_n cI x0 250 t] := hD
                refine lv_aload_n hx hb dc_Mo_word_94 rfl (lv_at hl 0 rfl) ?_
                refine va_get (ci := 10) (v := .int (nI (pt_zz t mty mat))) (C := rn_Mo) (T := fd_Mo) (N := 36) hx hb hts in_Mo hown hK hP 0 rfl rfl 5 (by decide) (hts _ wd_751) (fun _ h9 => h9) rfl dc_Mo_word_95 ?_
                refine lv_aload_n hx hb dc_Mo_word_98 rfl (lv_at hl 0 rfl) ?_
                refine va_get (ci := 10) (v := .int (nI (pt_ws t mty mat))) (C := rn_Mo) (T := fd_Mo) (N := 36) hx hb hts in_Mo hown hK hP 0 rfl rfl 4 (by decide) (hts _ wd_750) (fun _ h9 => h9) rfl dc_Mo_word_99 ?_
                refine kn_icmp_le hx hb (by omega) (by omega) dc_Mo_word_102 rfl (fun hc102 => ?_) (fun hc102 => ?_)
                · refine lv_iconst (v := nI 0) hx hb dc_Mo_word_109 (by decide +kernel) ?_
                  refine kn_top (y := kb_i false) (by decide +kernel) ?_
                  exact kw_zret hx hb hr hlocks hP hD hS dc_Mo_word_110 ((decide_eq_false (by omega)).symm) (rfl)
                · refine lv_iconst (v := nI 1) hx hb dc_Mo_word_105 (by decide +kernel) ?_
                  refine lv_goto hx hb dc_Mo_word_106 rfl ?_
                  refine kn_top (y := kb_i true) (by decide +kernel) ?_
                  exact kw_zret hx hb hr hlocks hP hD hS dc_Mo_word_110 ((decide_eq_true (by omega)).symm) (rfl)
              · refine lv_aload_n hx hb dc_Mo_word_58 rfl (lv_at hl 0 rfl) ?_
                refine va_get (ci := 10) (v := .ref x0) (C := rn_Mo) (T := fd_Mo) (N := 36) hx hb hts in_Mo hown hK hP 0 rfl rfl 2 (by decide) (hts _ wd_748) (fun _ h9 => h9) rfl dc_Mo_word_59 ?_
                refine lv_aload_n hx hb dc_Mo_word_62 rfl (lv_at hl 0 rfl) ?_
                refine va_get (ci := 10) (v := .int (nI a2)) (C := rn_Mo) (T := fd_Mo) (N := 36) hx hb hts in_Mo hown hK hP 0 rfl rfl 3 (by decide) (hts _ wd_749) (fun _ h9 => h9) rfl dc_Mo_word_63 ?_
                refine ka_nald (t := t) hx hb hK hP 1 0 rfl rfl (j := a2) (by omega) (by omega) dc_Mo_word_66 ?_
                refine kr_call1 (va_runS (As := [.int (nI (t a2))]) (rest := []) ⟨hx, hb, hml, hown, hts⟩ (ct_Mo_isGap l D cI cZ _ (t a2) (Nat.lt_trans (ht a2) (by decide))) (cwS 1 hts (kx_gS wd_880 wd_881 wd_9 wd_882) rfl rfl rfl ⟨rfl, yd_Mo_isGap⟩ ⟨Nat.le_of_ble_eq_true rfl, Nat.le_of_ble_eq_true rfl⟩) (kp_S hP hD hK hN [] rfl rfl) rfl rfl hl.1 rfl (lv_room (Nat.le_of_ble_eq_true rfl)) dc_Mo_word_67 ⟨Nat.le_of_ble_eq_true rfl, Nat.le_of_ble_eq_true rfl⟩) ?_
                refine kb_if_ne hx hb dc_Mo_word_70 rfl (fun hc70 => ?_) (fun hc70 => ?_)
                · have hz2 : a2 = pt_zz t mty mat := by rw [← h3, we_stop (fun q => by rw [hc70] at q; exact absurd q.2 (by decide))]
                  rw [hz2] at hP hD h4
                  refine lv_aload_n hx hb dc_Mo_word_86 rfl (lv_at hl 0 rfl) ?_
                  refine lv_aload_n hx hb dc_Mo_word_87 rfl (lv_at hl 0 rfl) ?_
                  refine va_get (ci := 10) (v := .int (nI (pt_zz t mty mat))) (C := rn_Mo) (T := fd_Mo) (N := 36) hx hb hts in_Mo hown hK hP 0 rfl rfl 3 (by decide) (hts _ wd_749) (fun _ h9 => h9) rfl dc_Mo_word_88 ?_
                  refine va_put (ci := 10) (v := .int (nI (pt_zz t mty mat))) (ty := .int) (C := rn_Mo) (T := fd_Mo) (N := 36) hx hb hts in_Mo ty_Mo tk_Mo nm_Mo hown hK hP hD hS 0 rfl rfl 5 (by decide) (hts _ wd_751) (fun _ h9 => h9) rfl (by decide +kernel) rfl rfl (Nat.le_of_ble_eq_true rfl) dc_Mo_word_91 (fun H locs hP hD hS => ?_)
                  have hP : va_P D kc_l [mo_c o mth mty x0 (pt_zz t mty mat) (pt_ws t mty mat) (pt_zz t mty mat) mgd mrd x1 x2 x3 mhf mhp mcl mck mba mct x4 x5 x6 x7 x8 mst x9 x10 x11 x12 mtr mrs x13 x14 x15 x16 mwr x17 mfo, ar_n cI x0 250 t] H := hP
                  have hD : va_D A [mo_c o mth mty x0 (pt_zz t mty mat) (pt_ws t mty mat) (pt_zz t mty mat) mgd mrd x1 x2 x3 mhf mhp mcl mck mba mct x4 x5 x6 x7 x8 mst x9 x10 x11 x12 mtr mrs x13 x14 x15 x16 mwr x17 mfo, ar_n cI x0 250 t] := hD
                  refine lv_aload_n hx hb dc_Mo_word_94 rfl (lv_at hl 0 rfl) ?_
                  refine va_get (ci := 10) (v := .int (nI (pt_zz t mty mat))) (C := rn_Mo) (T := fd_Mo) (N := 36) hx hb hts in_Mo hown hK hP 0 rfl rfl 5 (by decide) (hts _ wd_751) (fun _ h9 => h9) rfl dc_Mo_word_95 ?_
                  refine lv_aload_n hx hb dc_Mo_word_98 rfl (lv_at hl 0 rfl) ?_
                  refine va_get (ci := 10) (v := .int (nI (pt_ws t mty mat))) (C := rn_Mo) (T := fd_Mo) (N := 36) hx hb hts in_Mo hown hK hP 0 rfl rfl 4 (by decide) (hts _ wd_750) (fun _ h9 => h9) rfl dc_Mo_word_99 ?_
                  refine kn_icmp_le hx hb (by omega) (by omega) dc_Mo_word_102 rfl (fun hc102 => ?_) (fun hc102 => ?_)
                  · refine lv_iconst (v := nI 0) hx hb dc_Mo_word_109 (by decide +kernel) ?_
                    refine kn_top (y := kb_i false) (by decide +kernel) ?_
                    exact kw_zret hx hb hr hlocks hP hD hS dc_Mo_word_110 ((decide_eq_false (by omega)).symm) (rfl)
                  · refine lv_iconst (v := nI 1) hx hb dc_Mo_word_105 (by decide +kernel) ?_
                    refine lv_goto hx hb dc_Mo_word_106 rfl ?_
                    refine kn_top (y := kb_i true) (by decide +kernel) ?_
                    exact kw_zret hx hb hr hlocks hP hD hS dc_Mo_word_110 ((decide_eq_true (by omega)).symm) (rfl)
                · refine lv_aload_n hx hb dc_Mo_word_73 rfl (lv_at hl 0 rfl) ?_
                  refine lv_dup hx hb dc_Mo_word_74 rfl ?_
                  refine va_get (ci := 10) (v := .int (nI a2)) (C := rn_Mo) (T := fd_Mo) (N := 36) hx hb hts in_Mo hown hK hP 0 rfl rfl 3 (by decide) (hts _ wd_749) (fun _ h9 => h9) rfl dc_Mo_word_75 ?_
                  refine lv_iconst (v := nI 1) hx hb dc_Mo_word_78 (by decide +kernel) ?_
                  refine kn_iadd hx hb dc_Mo_word_79 ?_
                  refine va_put (ci := 10) (v := .int (nI (a2 + 1))) (ty := .int) (C := rn_Mo) (T := fd_Mo) (N := 36) hx hb hts in_Mo ty_Mo tk_Mo nm_Mo hown hK hP hD hS 0 rfl rfl 3 (by decide) (hts _ wd_749) (fun _ h9 => h9) rfl (by decide +kernel) rfl rfl (Nat.le_of_ble_eq_true rfl) dc_Mo_word_80 (fun H locs hP hD hS => ?_)
                  have hP : va_P D kc_l [mo_c o mth mty x0 (a2 + 1) (pt_ws t mty mat) mto mgd mrd x1 x2 x3 mhf mhp mcl mck mba mct x4 x5 x6 x7 x8 mst x9 x10 x11 x12 mtr mrs x13 x14 x15 x16 mwr x17 mfo, ar_n cI x0 250 t] H := hP
                  have hD : va_D A [mo_c o mth mty x0 (a2 + 1) (pt_ws t mty mat) mto mgd mrd x1 x2 x3 mhf mhp mcl mck mba mct x4 x5 x6 x7 x8 mst x9 x10 x11 x12 mtr mrs x13 x14 x15 x16 mwr x17 mfo, ar_n cI x0 250 t] := hD
                  refine lv_goto hx hb dc_Mo_word_83 rfl ?_
                  exact ih _ _ _ _ (by omega) hP hD hS hl (by rw [← h3]; exact (we_step (by omega) (by rw [hc70]; rfl)).symm) (⟨by omega, by omega⟩)
          exact lp_47 _ _ _ _ _ (Nat.lt_succ_self _) hP hD hS hl (rfl) (⟨by omega, by omega⟩)
        · refine lv_aload_n hx hb dc_Mo_word_26 rfl (lv_at hl 0 rfl) ?_
          refine lv_dup hx hb dc_Mo_word_27 rfl ?_
          refine va_get (ci := 10) (v := .int (nI a1)) (C := rn_Mo) (T := fd_Mo) (N := 36) hx hb hts in_Mo hown hK hP 0 rfl rfl 3 (by decide) (hts _ wd_749) (fun _ h9 => h9) rfl dc_Mo_word_28 ?_
          refine lv_iconst (v := nI 1) hx hb dc_Mo_word_31 (by decide +kernel) ?_
          refine kn_iadd hx hb dc_Mo_word_32 ?_
          refine va_put (ci := 10) (v := .int (nI (a1 + 1))) (ty := .int) (C := rn_Mo) (T := fd_Mo) (N := 36) hx hb hts in_Mo ty_Mo tk_Mo nm_Mo hown hK hP hD hS 0 rfl rfl 3 (by decide) (hts _ wd_749) (fun _ h9 => h9) rfl (by decide +kernel) rfl rfl (Nat.le_of_ble_eq_true rfl) dc_Mo_word_33 (fun H locs hP hD hS => ?_)
          have hP : va_P D kc_l [mo_c o mth mty x0 (a1 + 1) mfr mto mgd mrd x1 x2 x3 mhf mhp mcl mck mba mct x4 x5 x6 x7 x8 mst x9 x10 x11 x12 mtr mrs x13 x14 x15 x16 mwr x17 mfo, ar_n cI x0 250 t] H := hP
          have hD : va_D A [mo_c o mth mty x0 (a1 + 1) mfr mto mgd mrd x1 x2 x3 mhf mhp mcl mck mba mct x4 x5 x6 x7 x8 mst x9 x10 x11 x12 mtr mrs x13 x14 x15 x16 mwr x17 mfo, ar_n cI x0 250 t] := hD
          refine lv_goto hx hb dc_Mo_word_36 rfl ?_
          exact ih _ _ _ _ (by omega) hP hD hS hl (by rw [← h1]; exact (ws_step (by omega) hc23).symm) (by omega)
  exact lp_0 _ _ _ _ _ (Nat.lt_succ_self _) hP hD hS hl (rfl) (hat)

set_option maxHeartbeats 4000000 in
set_option maxRecDepth 100000 in
theorem ct_Mo_opposite (l : Launch) (D : va_G) (cI cZ : ClassId) (sz : Nat) (x : Nat) (hx16 : x < 65536) : Met l yn_Mo_opposite (Cond.code yn_Mo_opposite bc_Mo_opposite 1 (some .int) :: kx_all) ({ frames := 0, cells := 0, slots := 0, locals := 0 } : Room) (kp [.int (nI x)] D cI cZ [] sz) (kr_q (some (.int (nI (nb_op x))))) 0 0 (fun _ => False) := by
  refine kx_met (by decide) (Nat.le_of_ble_eq_true rfl) ?_
  intro p e s m below meth c ls hx hb hr hml hts hown hlocks hin hsz hP hK hD hN hl
  have hown : s.vm.findClass rn_Mo = some m.cls := hown
  have hl : lv_has ls 1 [(0, .int (nI x))] := hl
  refine lv_iload_n hx hb dc_Mo_opposite_0 rfl (lv_at hl 0 rfl) ?_
  refine lv_sipush (v := nI 255) hx hb dc_Mo_opposite_1 (by decide +kernel) ?_
  refine lv_iand hx hb dc_Mo_opposite_4 ?_
  refine lv_bipush (v := nI 8) hx hb dc_Mo_opposite_5 (by decide +kernel) ?_
  refine lv_ishl hx hb dc_Mo_opposite_7 ?_
  refine lv_iload_n hx hb dc_Mo_opposite_8 rfl (lv_at hl 0 rfl) ?_
  refine lv_bipush (v := nI 8) hx hb dc_Mo_opposite_9 (by decide +kernel) ?_
  refine lv_ishr hx hb dc_Mo_opposite_11 ?_
  refine lv_ior hx hb dc_Mo_opposite_12 ?_
  refine kn_top (y := nI (nb_op x)) (nb_op_j hx16) ?_
  exact kr_iret hx hb hr hlocks dc_Mo_opposite_13 (rfl)

set_option maxHeartbeats 4000000 in
set_option maxRecDepth 100000 in
theorem ct_Mo_bitOf (l : Launch) (D : va_G) (cI cZ : ClassId) (sz : Nat) (b : Nat) (hb16 : b < 16) : Met l yn_Mo_bitOf (Cond.code yn_Mo_bitOf bc_Mo_bitOf 1 (some .int) :: kx_all) ({ frames := 0, cells := 0, slots := 0, locals := 0 } : Room) (kp [.int (pt_lit b)] D cI cZ [] sz) (kr_q (some (.int (nI (2 ^ b))))) 0 0 (fun _ => False) := by
  refine kx_met (by decide) (Nat.le_of_ble_eq_true rfl) ?_
  intro p e s m below meth c ls hx hb hr hml hts hown hlocks hin hsz hP hK hD hN hl
  have hown : s.vm.findClass rn_Mo = some m.cls := hown
  have hl : lv_has ls 1 [(0, .int (pt_lit b))] := hl
  by_cases h8 : b < 8
  · refine lv_iload_n hx hb dc_Mo_bitOf_0 rfl (lv_at hl 0 rfl) ?_
    refine lv_if_le hx hb dc_Mo_bitOf_1 rfl (fun hc1 => ?_) (fun hc1 => ?_)
    · exact absurd hc1 (pt_lit_pos b h8)
    · refine lv_iconst (v := nI 1) hx hb dc_Mo_bitOf_4 (by decide +kernel) ?_
      refine lv_iload_n hx hb dc_Mo_bitOf_5 rfl (lv_at hl 0 rfl) ?_
      refine lv_iconst (v := nI 1) hx hb dc_Mo_bitOf_6 (by decide +kernel) ?_
      refine lv_isub hx hb dc_Mo_bitOf_7 ?_
      refine kn_top (y := nI b) (pt_lit_p1 b h8) ?_
      refine lv_ishl hx hb dc_Mo_bitOf_8 ?_
      refine kn_top (y := nI (2 ^ b)) (nb_shl1 b (by omega)) ?_
      refine lv_goto hx hb dc_Mo_bitOf_9 rfl ?_
      exact kr_iret hx hb hr hlocks dc_Mo_bitOf_18 (rfl)
  · refine lv_iload_n hx hb dc_Mo_bitOf_0 rfl (lv_at hl 0 rfl) ?_
    refine lv_if_le hx hb dc_Mo_bitOf_1 rfl (fun hc1 => ?_) (fun hc1 => ?_)
    · refine lv_iconst (v := nI 1) hx hb dc_Mo_bitOf_12 (by decide +kernel) ?_
      refine lv_bipush (v := nI 7) hx hb dc_Mo_bitOf_13 (by decide +kernel) ?_
      refine lv_iload_n hx hb dc_Mo_bitOf_15 rfl (lv_at hl 0 rfl) ?_
      refine lv_isub hx hb dc_Mo_bitOf_16 ?_
      refine kn_top (y := nI b) (pt_lit_7 b hb16 h8) ?_
      refine lv_ishl hx hb dc_Mo_bitOf_17 ?_
      refine kn_top (y := nI (2 ^ b)) (nb_shl1 b (by omega)) ?_
      exact kr_iret hx hb hr hlocks dc_Mo_bitOf_18 (rfl)
    · exact absurd (pt_lit_neg b hb16 h8) hc1

theorem sh_k : ∀ k, k < 16 → ((nI k &&& 31).toBitVec.smod 32).toNat = k := by decide +kernel
set_option maxHeartbeats 4000000 in
set_option maxRecDepth 100000 in
theorem ct_Mo_bits (l : Launch) (D : va_G) (cI cZ : ClassId) (sz : Nat) (x : Nat) (hx16 : x < 65536) : Met l yn_Mo_bits (Cond.code yn_Mo_bits bc_Mo_bits 3 (some .int) :: kx_all) ({ frames := 0, cells := 0, slots := 0, locals := 0 } : Room) (kp [.int (nI x)] D cI cZ [] sz) (kr_q (some (.int (nI (pt_bits x 16))))) 0 0 (fun _ => False) := by
  refine kx_met (by decide) (Nat.le_of_ble_eq_true rfl) ?_
  intro p e s m below meth c ls hx hb hr hml hts hown hlocks hin hsz hP hK hD hN hl
  have hown : s.vm.findClass rn_Mo = some m.cls := hown
  have hl : lv_has ls 3 [(0, .int (nI x))] := hl
  refine lv_iconst (v := nI 0) hx hb dc_Mo_bits_0 (by decide +kernel) ?_
  refine lv_istore_n (lv' := [(1, .int (nI 0)), (0, .int (nI x))]) hx hb dc_Mo_bits_1 rfl hl (by decide) rfl (fun ls hl => ?_)
  refine lv_iconst (v := nI 0) hx hb dc_Mo_bits_2 (by decide +kernel) ?_
  refine lv_istore_n (lv' := [(2, .int (nI 0)), (1, .int (nI 0)), (0, .int (nI x))]) hx hb dc_Mo_bits_3 rfl hl (by decide) rfl (fun ls hl => ?_)
  have lp_4 : ∀ (K : Nat) (k : Nat) (ls : Array Slot), 16 - k < K → lv_has ls 3 [(2, .int (nI k)), (1, .int (nI (pt_bits x k))), (0, .int (nI x))] → (k ≤ 16) → W p l e ({ frames := 0, cells := 0, slots := 0, locals := 0 } : Room) s m ([.int (nI x)] : List Value).toArray below meth c s.heap [] 0 0 (MQ below (kr_q (some (.int (nI (pt_bits x 16))))) ([.int (nI x)] : List Value).toArray s 0 0 (fun _ => False)) (F0 m 4 ls []) := by
    intro K
    induction K with
    | zero =>
      intro k ls hk
      exact absurd hk (Nat.not_lt_zero _)
    | succ K ih =>
      intro k ls hk hl h2
      refine lv_iload_n hx hb dc_Mo_bits_4 rfl (lv_at hl 0 rfl) ?_
      refine lv_bipush (v := nI 16) hx hb dc_Mo_bits_5 (by decide +kernel) ?_
      refine kn_icmp_ge hx hb (by omega) (by omega) dc_Mo_bits_7 rfl (fun hc7 => ?_) (fun hc7 => ?_)
      · refine lv_iload_n hx hb dc_Mo_bits_24 rfl (lv_at hl 1 rfl) ?_
        exact kr_iret hx hb hr hlocks dc_Mo_bits_25 (by rw [show k = 16 by omega])
      · refine lv_iload_n hx hb dc_Mo_bits_10 rfl (lv_at hl 1 rfl) ?_
        refine lv_iload_n hx hb dc_Mo_bits_11 rfl (lv_at hl 2 rfl) ?_
        refine lv_iload_n hx hb dc_Mo_bits_12 rfl (lv_at hl 0 rfl) ?_
        refine lv_ishr hx hb dc_Mo_bits_13 ?_
        refine kn_top (y := nI (x / 2 ^ k)) (pk_shrN (k := k) (by omega) _ (sh_k k (by omega))) ?_
        refine lv_iconst (v := nI 1) hx hb dc_Mo_bits_14 (by decide +kernel) ?_
        refine kn_iand hx hb dc_Mo_bits_15 ?_
        refine kn_top (y := nI (x / 2 ^ k % 2)) (congrArg nI (Nat.and_two_pow_sub_one_eq_mod _ 1)) ?_
        refine kn_iadd hx hb dc_Mo_bits_16 ?_
        refine lv_istore_n (lv' := [(1, .int (nI ((pt_bits x k) + (x / 2 ^ k % 2)))), (2, .int (nI k)), (0, .int (nI x))]) hx hb dc_Mo_bits_17 rfl hl (by decide) rfl (fun ls hl => ?_)
        refine lv_iinc (k := 1) (v := nI (k + 1)) (lv' := [(2, .int (nI (k + 1))), (1, .int (nI ((pt_bits x k) + (x / 2 ^ k % 2)))), (0, .int (nI x))]) hx hb dc_Mo_bits_18 hl rfl (nI_1 _) (by decide) rfl (fun ls hl => ?_)
        refine lv_goto hx hb dc_Mo_bits_21 rfl ?_
        exact ih _ _ (by omega) hl (by omega)
  exact lp_4 _ _ _ (Nat.lt_succ_self _) hl (by omega)

set_option maxHeartbeats 4000000 in
set_option maxRecDepth 100000 in
theorem ct_Mo_open (l : Launch) (D : va_G) (cI cZ : ClassId) (sz : Nat) (o : Nat) (mth : Nat) (mty : Nat) (x0 : Nat) (mat : Nat) (mfr : Nat) (mto : Nat) (mgd : Bool) (mrd : Nat) (x1 : Nat) (x2 : Nat) (x3 : Nat) (mhf : Bool) (mhp : Bool) (mcl : Bool) (mck : Bool) (mba : Nat) (mct : Nat) (x4 : Nat) (x5 : Nat) (x6 : Nat) (x7 : Nat) (x8 : Nat) (mst : Nat) (x9 : Nat) (x10 : Nat) (x11 : Nat) (x12 : Nat) (mtr : Nat) (mrs : Nat) (x13 : Nat) (x14 : Nat) (x15 : Nat) (x16 : Nat) (mwr : Nat) (x17 : Nat) (mfo : Nat) (fs : Nat → Nat) (j : Nat) (ht16 : mtr < 65536) (hj : j < 33) : Met l yn_Mo_open (Cond.code yn_Mo_open bc_Mo_open 2 (some .int) :: kx_all) ({ frames := 1, cells := 0, slots := 0, locals := 20 } : Room) (kp [.ref o, .int (nI j)] D cI cZ [mo_c o mth mty x0 mat mfr mto mgd mrd x1 x2 x3 mhf mhp mcl mck mba mct x4 x5 x6 x7 x8 mst x9 x10 x11 x12 mtr mrs x13 x14 x15 x16 mwr x17 mfo, ar_n cI x4 33 fs] sz) (kr_q (some (.int (nI (nb_d (fs j) (mtr ||| nb_op mtr)))))) 0 0 (fun _ => False) := by
  refine kx_met (by decide) (Nat.le_of_ble_eq_true rfl) ?_
  intro p e s m below meth c ls hx hb hr hml hts hown hlocks hin hsz hP hK hD hN hl
  have hown : s.vm.findClass rn_Mo = some m.cls := hown
  have hl : lv_has ls 2 [(0, .ref o), (1, .int (nI j))] := hl
  refine lv_aload_n hx hb dc_Mo_open_0 rfl (lv_at hl 0 rfl) ?_
  refine va_get (ci := 10) (v := .ref x4) (C := rn_Mo) (T := fd_Mo) (N := 36) hx hb hts in_Mo hown hK hP 0 rfl rfl 17 (by decide) (hts _ wd_763) (fun _ h9 => h9) rfl dc_Mo_open_1 ?_
  refine lv_iload_n hx hb dc_Mo_open_4 rfl (lv_at hl 1 rfl) ?_
  refine ka_nald (t := fs) hx hb hK hP 1 0 rfl rfl (j := j) (by omega) (by omega) dc_Mo_open_5 ?_
  refine lv_aload_n hx hb dc_Mo_open_6 rfl (lv_at hl 0 rfl) ?_
  refine va_get (ci := 10) (v := .int (nI mtr)) (C := rn_Mo) (T := fd_Mo) (N := 36) hx hb hts in_Mo hown hK hP 0 rfl rfl 27 (by decide) (hts _ wd_773) (fun _ h9 => h9) rfl dc_Mo_open_7 ?_
  refine lv_aload_n hx hb dc_Mo_open_10 rfl (lv_at hl 0 rfl) ?_
  refine va_get (ci := 10) (v := .int (nI mtr)) (C := rn_Mo) (T := fd_Mo) (N := 36) hx hb hts in_Mo hown hK hP 0 rfl rfl 27 (by decide) (hts _ wd_773) (fun _ h9 => h9) rfl dc_Mo_open_11 ?_
  refine kr_call1 (va_runS (As := [.int (nI mtr)]) (rest := [.int (nI mtr), .int (nI (fs j))]) ⟨hx, hb, hml, hown, hts⟩ (ct_Mo_opposite l D cI cZ _ mtr (ht16)) (cwS 1 hts (kx_gS wd_946 wd_947 wd_9 wd_948) rfl rfl rfl ⟨rfl, yd_Mo_opposite⟩ ⟨Nat.le_of_ble_eq_true rfl, Nat.le_of_ble_eq_true rfl⟩) (kp_S hP hD hK hN [] rfl rfl) rfl rfl hl.1 rfl (lv_room (Nat.le_of_ble_eq_true rfl)) dc_Mo_open_14 ⟨Nat.le_of_ble_eq_true rfl, Nat.le_of_ble_eq_true rfl⟩) ?_
  refine kn_ior hx hb dc_Mo_open_17 ?_
  refine lv_iconst (v := (-1)) hx hb dc_Mo_open_18 (by decide +kernel) ?_
  refine lv_ixor hx hb dc_Mo_open_19 ?_
  refine kn_inot hx hb dc_Mo_open_20 ?_
  exact kr_iret hx hb hr hlocks dc_Mo_open_21 (rfl)

set_option maxHeartbeats 4000000 in
set_option maxRecDepth 100000 in
theorem ct_Mo_isClause (l : Launch) (D : va_G) (cI cZ : ClassId) (sz : Nat) (o : Nat) (mth : Nat) (mty : Nat) (x0 : Nat) (mat : Nat) (mfr : Nat) (mto : Nat) (mgd : Bool) (mrd : Nat) (x1 : Nat) (x2 : Nat) (x3 : Nat) (mhf : Bool) (mhp : Bool) (mcl : Bool) (mck : Bool) (mba : Nat) (mct : Nat) (x4 : Nat) (x5 : Nat) (x6 : Nat) (x7 : Nat) (x8 : Nat) (mst : Nat) (x9 : Nat) (x10 : Nat) (x11 : Nat) (x12 : Nat) (mtr : Nat) (mrs : Nat) (x13 : Nat) (x14 : Nat) (x15 : Nat) (x16 : Nat) (mwr : Nat) (x17 : Nat) (mfo : Nat) (j : Nat) (hn : mct < 2 ^ 31) (hj : j < 2 ^ 31) : Met l yn_Mo_isClause (Cond.code yn_Mo_isClause bc_Mo_isClause 2 (some .boolean) :: kx_all) ({ frames := 0, cells := 0, slots := 0, locals := 0 } : Room) (kp [.ref o, .int (nI j)] D cI cZ [mo_c o mth mty x0 mat mfr mto mgd mrd x1 x2 x3 mhf mhp mcl mck mba mct x4 x5 x6 x7 x8 mst x9 x10 x11 x12 mtr mrs x13 x14 x15 x16 mwr x17 mfo] sz) (kr_q (some (.int (kb_i (decide (1 ≤ j ∧ j ≤ mct)))))) 0 0 (fun _ => False) := by
  refine kx_met (by decide) (Nat.le_of_ble_eq_true rfl) ?_
  intro p e s m below meth c ls hx hb hr hml hts hown hlocks hin hsz hP hK hD hN hl
  have hown : s.vm.findClass rn_Mo = some m.cls := hown
  have hl : lv_has ls 2 [(0, .ref o), (1, .int (nI j))] := hl
  refine lv_iload_n hx hb dc_Mo_isClause_0 rfl (lv_at hl 1 rfl) ?_
  refine lv_if_le hx hb dc_Mo_isClause_1 rfl (fun hc1 => ?_) (fun hc1 => ?_)
  · refine lv_iconst (v := nI 0) hx hb dc_Mo_isClause_16 (by decide +kernel) ?_
    refine kn_top (y := kb_i false) (by decide +kernel) ?_
    exact kr_zret hx hb hr hlocks dc_Mo_isClause_17 ((decide_eq_false (fun q => nI_nle (n := j) (by omega) hj hc1)).symm)
  · refine lv_iload_n hx hb dc_Mo_isClause_4 rfl (lv_at hl 1 rfl) ?_
    refine lv_aload_n hx hb dc_Mo_isClause_5 rfl (lv_at hl 0 rfl) ?_
    refine va_get (ci := 10) (v := .int (nI mct)) (C := rn_Mo) (T := fd_Mo) (N := 36) hx hb hts in_Mo hown hK hP 0 rfl rfl 16 (by decide) (hts _ wd_762) (fun _ h9 => h9) rfl dc_Mo_isClause_6 ?_
    refine kn_icmp_gt hx hb (by omega) (by omega) dc_Mo_isClause_9 rfl (fun hc9 => ?_) (fun hc9 => ?_)
    · refine lv_iconst (v := nI 0) hx hb dc_Mo_isClause_16 (by decide +kernel) ?_
      refine kn_top (y := kb_i false) (by decide +kernel) ?_
      exact kr_zret hx hb hr hlocks dc_Mo_isClause_17 ((decide_eq_false (by omega)).symm)
    · refine lv_iconst (v := nI 1) hx hb dc_Mo_isClause_12 (by decide +kernel) ?_
      refine lv_goto hx hb dc_Mo_isClause_13 rfl ?_
      refine kn_top (y := kb_i true) (by decide +kernel) ?_
      exact kr_zret hx hb hr hlocks dc_Mo_isClause_17 ((decide_eq_true ⟨Nat.pos_of_ne_zero (fun q => hc1 (by rw [q]; decide +kernel)), hc9⟩).symm)

theorem le_of_l {i : Int32} (h : i < 0) : i ≤ 0 := by
  rw [Int32.lt_iff_toInt_lt] at h
  rw [Int32.le_iff_toInt_le]
  omega
set_option maxHeartbeats 4000000 in
set_option maxRecDepth 100000 in
theorem ct_Mo_isClause_neg (l : Launch) (D : va_G) (cI cZ : ClassId) (sz : Nat) (o : Nat) (mth : Nat) (mty : Nat) (x0 : Nat) (mat : Nat) (mfr : Nat) (mto : Nat) (mgd : Bool) (mrd : Nat) (x1 : Nat) (x2 : Nat) (x3 : Nat) (mhf : Bool) (mhp : Bool) (mcl : Bool) (mck : Bool) (mba : Nat) (mct : Nat) (x4 : Nat) (x5 : Nat) (x6 : Nat) (x7 : Nat) (x8 : Nat) (mst : Nat) (x9 : Nat) (x10 : Nat) (x11 : Nat) (x12 : Nat) (mtr : Nat) (mrs : Nat) (x13 : Nat) (x14 : Nat) (x15 : Nat) (x16 : Nat) (mwr : Nat) (x17 : Nat) (mfo : Nat) (i : Int32) (hi : i < 0) : Met l yn_Mo_isClause (Cond.code yn_Mo_isClause bc_Mo_isClause 2 (some .boolean) :: kx_all) ({ frames := 0, cells := 0, slots := 0, locals := 0 } : Room) (kp [.ref o, .int i] D cI cZ [mo_c o mth mty x0 mat mfr mto mgd mrd x1 x2 x3 mhf mhp mcl mck mba mct x4 x5 x6 x7 x8 mst x9 x10 x11 x12 mtr mrs x13 x14 x15 x16 mwr x17 mfo] sz) (kr_q (some (.int (kb_i false)))) 0 0 (fun _ => False) := by
  refine kx_met (by decide) (Nat.le_of_ble_eq_true rfl) ?_
  intro p e s m below meth c ls hx hb hr hml hts hown hlocks hin hsz hP hK hD hN hl
  have hown : s.vm.findClass rn_Mo = some m.cls := hown
  have hl : lv_has ls 2 [(0, .ref o), (1, .int i)] := hl
  refine lv_iload_n hx hb dc_Mo_isClause_0 rfl (lv_at hl 1 rfl) ?_
  refine lv_if_le hx hb dc_Mo_isClause_1 rfl (fun hc1 => ?_) (fun hc1 => ?_)
  · refine lv_iconst (v := nI 0) hx hb dc_Mo_isClause_16 (by decide +kernel) ?_
    refine kn_top (y := kb_i false) (by decide +kernel) ?_
    exact kr_zret hx hb hr hlocks dc_Mo_isClause_17 (rfl)
  · exact absurd (le_of_l hi) hc1

set_option maxHeartbeats 4000000 in
set_option maxRecDepth 100000 in
theorem ct_Mo_setAt (l : Launch) (D : va_G) (cI cZ : ClassId) (sz : Nat) (o : Nat) (mth : Nat) (mty : Nat) (x0 : Nat) (mat : Nat) (mfr : Nat) (mto : Nat) (mgd : Bool) (mrd : Nat) (x1 : Nat) (x2 : Nat) (x3 : Nat) (mhf : Bool) (mhp : Bool) (mcl : Bool) (mck : Bool) (mba : Nat) (mct : Nat) (x4 : Nat) (x5 : Nat) (x6 : Nat) (x7 : Nat) (x8 : Nat) (mst : Nat) (x9 : Nat) (x10 : Nat) (x11 : Nat) (x12 : Nat) (mtr : Nat) (mrs : Nat) (x13 : Nat) (x14 : Nat) (x15 : Nat) (x16 : Nat) (mwr : Nat) (x17 : Nat) (mfo : Nat) (rz : Nat → Nat) (rl : Nat → Int32) (j : Nat) (bb : Nat → Nat) (pm : Nat → Nat) (z : Nat) (hj : j < 16) (hrow : pt_row rl (8 * j) (rz j) bb pm z) : Met l yn_Mo_setAt (Cond.code yn_Mo_setAt bc_Mo_setAt 4 (some .int) :: kx_all) ({ frames := 1, cells := 0, slots := 0, locals := 20 } : Room) (kp [.ref o, .int (nI j)] D cI cZ [mo_c o mth mty x0 mat mfr mto mgd mrd x1 x2 x3 mhf mhp mcl mck mba mct x4 x5 x6 x7 x8 mst x9 x10 x11 x12 mtr mrs x13 x14 x15 x16 mwr x17 mfo, ar_n cI x1 16 rz, ar_i cI x2 128 rl] sz) (kr_q (some (.int (nI z)))) 0 0 (fun _ => False) := by
  refine kx_met (by decide) (Nat.le_of_ble_eq_true rfl) ?_
  intro p e s m below meth c ls hx hb hr hml hts hown hlocks hin hsz hP hK hD hN hl
  have hown : s.vm.findClass rn_Mo = some m.cls := hown
  have hl : lv_has ls 4 [(0, .ref o), (1, .int (nI j))] := hl
  obtain ⟨h8, hpm0, hpe, hlit⟩ := hrow
  refine lv_iconst (v := nI 0) hx hb dc_Mo_setAt_0 (by decide +kernel) ?_
  refine lv_istore_n (lv' := [(2, .int (nI 0)), (0, .ref o), (1, .int (nI j))]) hx hb dc_Mo_setAt_1 rfl hl (by decide) rfl (fun ls hl => ?_)
  refine lv_iconst (v := nI 0) hx hb dc_Mo_setAt_2 (by decide +kernel) ?_
  refine lv_istore_n (lv' := [(3, .int (nI 0)), (2, .int (nI 0)), (0, .ref o), (1, .int (nI j))]) hx hb dc_Mo_setAt_3 rfl hl (by decide) rfl (fun ls hl => ?_)
  have lp_4 : ∀ (K : Nat) (k : Nat) (ls : Array Slot), rz j - k < K → lv_has ls 4 [(3, .int (nI k)), (2, .int (nI (pm k))), (0, .ref o), (1, .int (nI j))] → (k ≤ rz j) → W p l e ({ frames := 1, cells := 0, slots := 0, locals := 20 } : Room) s m ([.ref o, .int (nI j)] : List Value).toArray below meth c s.heap [] 0 0 (MQ below (kr_q (some (.int (nI z)))) ([.ref o, .int (nI j)] : List Value).toArray s 0 0 (fun _ => False)) (F0 m 4 ls []) := by
    intro K
    induction K with
    | zero =>
      intro k ls hk
      exact absurd hk (Nat.not_lt_zero _)
    | succ K ih =>
      intro k ls hk hl h2
      refine lv_iload_n hx hb dc_Mo_setAt_4 rfl (lv_at hl 0 rfl) ?_
      refine lv_aload_n hx hb dc_Mo_setAt_5 rfl (lv_at hl 2 rfl) ?_
      refine va_get (ci := 10) (v := .ref x1) (C := rn_Mo) (T := fd_Mo) (N := 36) hx hb hts in_Mo hown hK hP 0 rfl rfl 8 (by decide) (hts _ wd_754) (fun _ h9 => h9) rfl dc_Mo_setAt_6 ?_
      refine lv_iload_n hx hb dc_Mo_setAt_9 rfl (lv_at hl 3 rfl) ?_
      refine ka_nald (t := rz) hx hb hK hP 1 0 rfl rfl (j := j) (by omega) (by omega) dc_Mo_setAt_10 ?_
      refine kn_icmp_ge hx hb (by omega) (by omega) dc_Mo_setAt_11 rfl (fun hc11 => ?_) (fun hc11 => ?_)
      · refine lv_iload_n hx hb dc_Mo_setAt_37 rfl (lv_at hl 1 rfl) ?_
        exact kr_iret hx hb hr hlocks dc_Mo_setAt_38 (by rw [show k = rz j by omega, hpe])
      · refine lv_iload_n hx hb dc_Mo_setAt_14 rfl (lv_at hl 1 rfl) ?_
        refine lv_aload_n hx hb dc_Mo_setAt_15 rfl (lv_at hl 2 rfl) ?_
        refine va_get (ci := 10) (v := .ref x2) (C := rn_Mo) (T := fd_Mo) (N := 36) hx hb hts in_Mo hown hK hP 0 rfl rfl 9 (by decide) (hts _ wd_755) (fun _ h9 => h9) rfl dc_Mo_setAt_16 ?_
        refine lv_bipush (v := nI 8) hx hb dc_Mo_setAt_19 (by decide +kernel) ?_
        refine lv_iload_n hx hb dc_Mo_setAt_21 rfl (lv_at hl 3 rfl) ?_
        refine kn_imul hx hb dc_Mo_setAt_22 ?_
        refine lv_iload_n hx hb dc_Mo_setAt_23 rfl (lv_at hl 0 rfl) ?_
        refine kn_iadd hx hb dc_Mo_setAt_24 ?_
        refine ka_iald (f := rl) hx hb hK hP 2 0 rfl rfl (j := (8 * j) + k) (by omega) (by omega) dc_Mo_setAt_25 ?_
        refine kn_top (y := pt_lit (bb k)) (hlit k (by omega)).2.1 ?_
        refine kr_call1 (va_runS (As := [.int (pt_lit (bb k))]) (rest := [.int (nI (pm k))]) ⟨hx, hb, hml, hown, hts⟩ (ct_Mo_bitOf l D cI cZ _ (bb k) ((hlit k (by omega)).1)) (cwS 1 hts (kx_gS wd_915 wd_916 wd_9 wd_917) rfl rfl rfl ⟨rfl, yd_Mo_bitOf⟩ ⟨Nat.le_of_ble_eq_true rfl, Nat.le_of_ble_eq_true rfl⟩) (kp_S hP hD hK hN [] rfl rfl) rfl rfl hl.1 rfl (lv_room (Nat.le_of_ble_eq_true rfl)) dc_Mo_setAt_26 ⟨Nat.le_of_ble_eq_true rfl, Nat.le_of_ble_eq_true rfl⟩) ?_
        refine kn_ior hx hb dc_Mo_setAt_29 ?_
        refine kn_top (y := nI (pm (k + 1))) (congrArg nI (hlit k (by omega)).2.2.2.1.symm) ?_
        refine lv_istore_n (lv' := [(2, .int (nI (pm (k + 1)))), (3, .int (nI k)), (0, .ref o), (1, .int (nI j))]) hx hb dc_Mo_setAt_30 rfl hl (by decide) rfl (fun ls hl => ?_)
        refine lv_iinc (k := 1) (v := nI (k + 1)) (lv' := [(3, .int (nI (k + 1))), (2, .int (nI (pm (k + 1)))), (0, .ref o), (1, .int (nI j))]) hx hb dc_Mo_setAt_31 hl rfl (nI_1 _) (by decide) rfl (fun ls hl => ?_)
        refine lv_goto hx hb dc_Mo_setAt_34 rfl ?_
        exact ih _ _ (by omega) hl (by omega)
  have hl : lv_has ls 4 [(3, .int (nI 0)), (2, .int (nI (pm 0))), (0, .ref o), (1, .int (nI j))] := by rw [hpm0]; exact hl
  exact lp_4 _ 0 _ (Nat.lt_succ_self _) hl (by omega)
