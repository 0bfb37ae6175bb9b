/-! the small functions on sets -/
section KQ
variable {p : Program} {l : Launch} {e : Env} {R : Room} {s : State} {m : MethodId} {args : Array Value} {below : List Frame} {meth : Method} {c : Code} {H : Heap} {locs : List Loc} {cells slots : Nat} {Q : State → Prop}
variable {cc : ByteArray} {pc : Nat} {ls : Array Slot} {rest : List Value}
theorem kn_ldc (hexec : p.tables.exec = Jvm.exec) (hb : c.code = cc) {own : String} {index : Nat} {v y : Int32} (hown : s.vm.findClass own = some m.cls) (hconst : (Jvm.Cond.constant own index v).before args s = true) (hdg : decode cc pc = .ok (.ldc index, 2)) (h : v = y) (k : W p l e R s m args below meth c H locs cells slots Q (F0 m (pc + 2) ls (.int y :: rest))) : W p l e R s m args below meth c H locs cells slots Q (F0 m pc ls rest) := by
  subst h
  exact lv_ldc hexec hb hown hconst hdg k
theorem kl_ldc2 (hexec : p.tables.exec = Jvm.exec) (hb : c.code = cc) {own : String} {index : Nat} {v y : Int64} (hown : s.vm.findClass own = some m.cls) (hconst : (Jvm.Cond.constantLong own index v).before args s = true) (hdg : decode cc pc = .ok (.ldc2_w index, 3)) (h : v = y) (k : W p l e R s m args below meth c H locs cells slots Q (F0 m (pc + 3) ls (.long y :: rest))) : W p l e R s m args below meth c H locs cells slots Q (F0 m pc ls rest) := by
  subst h
  exact lv_ldc2 hexec hb hown hconst hdg k
end KQ
/-- the literal of a bit: 1 .. 8, then -1 .. -8 -/
def pt_lit (b : Nat) : Int32 := if b < 8 then nI (b + 1) else -(nI (b - 7))
theorem pt_lit_pos : ∀ b, b < 8 → ¬ pt_lit b ≤ 0 := by decide +kernel
theorem pt_lit_neg : ∀ b, b < 16 → ¬ b < 8 → pt_lit b ≤ 0 := by decide +kernel
theorem pt_lit_p1 : ∀ b, b < 8 → pt_lit b - nI 1 = nI b := by decide +kernel
theorem pt_lit_7 : ∀ b, b < 16 → ¬ b < 8 → nI 7 - pt_lit b = nI b := by decide +kernel
theorem pt_lit_op : ∀ b, b < 16 → -(pt_lit b) = pt_lit ((b + 8) % 16) := by decide +kernel
theorem pt_bit0 {a k : Nat} (ha : a < 2 ^ 62) (hk : k < 62) : lg_cmp (lN (a &&& 2 ^ k)) (lN 0) = 0 ↔ a.testBit k = false := by
  rw [lg_cmp_eq]
  have h1 : a &&& 2 ^ k < 2 ^ 64 := Nat.lt_of_le_of_lt Nat.and_le_left (Nat.lt_trans ha (by decide))
  constructor
  · intro h
    have h2 := (lN_z h1).mp h
    have h3 : (a &&& 2 ^ k).testBit k = false := by rw [h2]; exact Nat.zero_testBit k
    rw [Nat.testBit_and, Nat.testBit_two_pow_self, Bool.and_true] at h3
    exact h3
  · intro h
    apply (lN_z h1).mpr
    apply Nat.eq_of_testBit_eq
    intro i
    rw [Nat.testBit_and, Nat.testBit_two_pow, Nat.zero_testBit]
    by_cases hi : k = i
    · subst hi; rw [h]; rfl
    · rw [decide_eq_false hi, Bool.and_false]

theorem dc_Pt_only_0 : decode bc_Pt_only 0 = .ok (.iconst 1, 1) := by decide +kernel
theorem dc_Pt_only_1 : decode bc_Pt_only 1 = .ok (.iload_n 0, 1) := by decide +kernel
theorem dc_Pt_only_2 : decode bc_Pt_only 2 = .ok (.ifCond .le (9), 3) := by decide +kernel
theorem dc_Pt_only_5 : decode bc_Pt_only 5 = .ok (.iload_n 0, 1) := by decide +kernel
theorem dc_Pt_only_6 : decode bc_Pt_only 6 = .ok (.iconst 1, 1) := by decide +kernel
theorem dc_Pt_only_7 : decode bc_Pt_only 7 = .ok (.isub, 1) := by decide +kernel
theorem dc_Pt_only_8 : decode bc_Pt_only 8 = .ok (.goto (7), 3) := by decide +kernel
theorem dc_Pt_only_11 : decode bc_Pt_only 11 = .ok (.bipush (7), 2) := by decide +kernel
theorem dc_Pt_only_13 : decode bc_Pt_only 13 = .ok (.iload_n 0, 1) := by decide +kernel
theorem dc_Pt_only_14 : decode bc_Pt_only 14 = .ok (.isub, 1) := by decide +kernel
theorem dc_Pt_only_15 : decode bc_Pt_only 15 = .ok (.ishl, 1) := by decide +kernel
theorem dc_Pt_only_16 : decode bc_Pt_only 16 = .ok (.ireturn, 1) := by decide +kernel
theorem dc_Pt_opposites_0 : decode bc_Pt_opposites 0 = .ok (.iload_n 0, 1) := by decide +kernel
theorem dc_Pt_opposites_1 : decode bc_Pt_opposites 1 = .ok (.bipush (8), 2) := by decide +kernel
theorem dc_Pt_opposites_3 : decode bc_Pt_opposites 3 = .ok (.iushr, 1) := by decide +kernel
theorem dc_Pt_opposites_4 : decode bc_Pt_opposites 4 = .ok (.iload_n 0, 1) := by decide +kernel
theorem dc_Pt_opposites_5 : decode bc_Pt_opposites 5 = .ok (.bipush (8), 2) := by decide +kernel
theorem dc_Pt_opposites_7 : decode bc_Pt_opposites 7 = .ok (.ishl, 1) := by decide +kernel
theorem dc_Pt_opposites_8 : decode bc_Pt_opposites 8 = .ok (.ldc 214, 2) := by decide +kernel
theorem dc_Pt_opposites_10 : decode bc_Pt_opposites 10 = .ok (.iand, 1) := by decide +kernel
theorem dc_Pt_opposites_11 : decode bc_Pt_opposites 11 = .ok (.ior, 1) := by decide +kernel
theorem dc_Pt_opposites_12 : decode bc_Pt_opposites 12 = .ok (.ireturn, 1) := by decide +kernel
theorem dc_Pt_one_0 : decode bc_Pt_one 0 = .ok (.lconst 1, 1) := by decide +kernel
theorem dc_Pt_one_1 : decode bc_Pt_one 1 = .ok (.iload_n 0, 1) := by decide +kernel
theorem dc_Pt_one_2 : decode bc_Pt_one 2 = .ok (.lshl, 1) := by decide +kernel
theorem dc_Pt_one_3 : decode bc_Pt_one 3 = .ok (.lreturn, 1) := by decide +kernel
theorem dc_Pt_firstOnes_0 : decode bc_Pt_firstOnes 0 = .ok (.lconst 1, 1) := by decide +kernel
theorem dc_Pt_firstOnes_1 : decode bc_Pt_firstOnes 1 = .ok (.iload_n 0, 1) := by decide +kernel
theorem dc_Pt_firstOnes_2 : decode bc_Pt_firstOnes 2 = .ok (.iconst 1, 1) := by decide +kernel
theorem dc_Pt_firstOnes_3 : decode bc_Pt_firstOnes 3 = .ok (.iadd, 1) := by decide +kernel
theorem dc_Pt_firstOnes_4 : decode bc_Pt_firstOnes 4 = .ok (.lshl, 1) := by decide +kernel
theorem dc_Pt_firstOnes_5 : decode bc_Pt_firstOnes 5 = .ok (.ldc2_w 215, 3) := by decide +kernel
theorem dc_Pt_firstOnes_8 : decode bc_Pt_firstOnes 8 = .ok (.lsub, 1) := by decide +kernel
theorem dc_Pt_firstOnes_9 : decode bc_Pt_firstOnes 9 = .ok (.lreturn, 1) := by decide +kernel
theorem dc_Pt_contains_0 : decode bc_Pt_contains 0 = .ok (.lload_n 0, 1) := by decide +kernel
theorem dc_Pt_contains_1 : decode bc_Pt_contains 1 = .ok (.lconst 1, 1) := by decide +kernel
theorem dc_Pt_contains_2 : decode bc_Pt_contains 2 = .ok (.iload_n 2, 1) := by decide +kernel
theorem dc_Pt_contains_3 : decode bc_Pt_contains 3 = .ok (.lshl, 1) := by decide +kernel
theorem dc_Pt_contains_4 : decode bc_Pt_contains 4 = .ok (.land, 1) := by decide +kernel
theorem dc_Pt_contains_5 : decode bc_Pt_contains 5 = .ok (.lconst 0, 1) := by decide +kernel
theorem dc_Pt_contains_6 : decode bc_Pt_contains 6 = .ok (.lcmp, 1) := by decide +kernel
theorem dc_Pt_contains_7 : decode bc_Pt_contains 7 = .ok (.ifCond .eq (7), 3) := by decide +kernel
theorem dc_Pt_contains_10 : decode bc_Pt_contains 10 = .ok (.iconst 1, 1) := by decide +kernel
theorem dc_Pt_contains_11 : decode bc_Pt_contains 11 = .ok (.goto (4), 3) := by decide +kernel
theorem dc_Pt_contains_14 : decode bc_Pt_contains 14 = .ok (.iconst 0, 1) := by decide +kernel
theorem dc_Pt_contains_15 : decode bc_Pt_contains 15 = .ok (.ireturn, 1) := by decide +kernel
set_option maxHeartbeats 4000000 in
set_option maxRecDepth 100000 in
theorem ct_Pt_only (l : Launch) (D : va_G) (cI cZ : ClassId) (sz : Nat) (b : Nat) (hb16 : b < 16) : Met l yn_Pt_only (Cond.code yn_Pt_only bc_Pt_only 1 (some .int) :: kx_all) ({ frames := 0, cells := 0, slots := 0, locals := 0 } : Room) (kp [.int (pt_lit b)] D cI cZ [] sz) (kr_q (some (.int (nI (2 ^ b))))) 0 0 (fun _ => False) := by
  refine kx_met (by decide) (Nat.le_of_ble_eq_true rfl) ?_
  intro p e s m below meth c ls hx hb hr hml hts hown hlocks hin hsz hP hK hD hN hl
  have hown : s.vm.findClass rn_Pt = some m.cls := hown
  have hl : lv_has ls 1 [(0, .int (pt_lit b))] := hl
  by_cases h8 : b < 8
  · refine lv_iconst (v := nI 1) hx hb dc_Pt_only_0 (by decide +kernel) ?_
    refine lv_iload_n hx hb dc_Pt_only_1 rfl (lv_at hl 0 rfl) ?_
    refine lv_if_le hx hb dc_Pt_only_2 rfl (fun hc2 => ?_) (fun hc2 => ?_)
    · exact absurd hc2 (pt_lit_pos b h8)
    · refine lv_iload_n hx hb dc_Pt_only_5 rfl (lv_at hl 0 rfl) ?_
      refine lv_iconst (v := nI 1) hx hb dc_Pt_only_6 (by decide +kernel) ?_
      refine lv_isub hx hb dc_Pt_only_7 ?_
      refine kn_top (y := nI b) (pt_lit_p1 b h8) ?_
      refine lv_goto hx hb dc_Pt_only_8 rfl ?_
      refine lv_ishl hx hb dc_Pt_only_15 ?_
      refine kn_top (y := nI (2 ^ b)) (nb_shl1 b (by omega)) ?_
      exact kr_iret hx hb hr hlocks dc_Pt_only_16 (rfl)
  · refine lv_iconst (v := nI 1) hx hb dc_Pt_only_0 (by decide +kernel) ?_
    refine lv_iload_n hx hb dc_Pt_only_1 rfl (lv_at hl 0 rfl) ?_
    refine lv_if_le hx hb dc_Pt_only_2 rfl (fun hc2 => ?_) (fun hc2 => ?_)
    · refine lv_bipush (v := nI 7) hx hb dc_Pt_only_11 (by decide +kernel) ?_
      refine lv_iload_n hx hb dc_Pt_only_13 rfl (lv_at hl 0 rfl) ?_
      refine lv_isub hx hb dc_Pt_only_14 ?_
      refine kn_top (y := nI b) (pt_lit_7 b hb16 h8) ?_
      refine lv_ishl hx hb dc_Pt_only_15 ?_
      refine kn_top (y := nI (2 ^ b)) (nb_shl1 b (by omega)) ?_
      exact kr_iret hx hb hr hlocks dc_Pt_only_16 (rfl)
    · exact absurd (pt_lit_neg b hb16 h8) hc2

set_option maxHeartbeats 4000000 in
set_option maxRecDepth 100000 in
theorem ct_Pt_opposites (l : Launch) (D : va_G) (cI cZ : ClassId) (sz : Nat) (x : Nat) (hx16 : x < 65536) : Met l yn_Pt_opposites (Cond.code yn_Pt_opposites bc_Pt_opposites 1 (some .int) :: kx_all) ({ frames := 0, cells := 0, slots := 0, locals := 0 } : Room) (kp [.int (nI x)] D cI cZ [] sz) (kr_q (some (.int (nI (nb_op x))))) 0 0 (fun _ => False) := by
  refine kx_met (by decide) (Nat.le_of_ble_eq_true rfl) ?_
  intro p e s m below meth c ls hx hb hr hml hts hown hlocks hin hsz hP hK hD hN hl
  have hown : s.vm.findClass rn_Pt = some m.cls := hown
  have hl : lv_has ls 1 [(0, .int (nI x))] := hl
  refine lv_iload_n hx hb dc_Pt_opposites_0 rfl (lv_at hl 0 rfl) ?_
  refine lv_bipush (v := nI 8) hx hb dc_Pt_opposites_1 (by decide +kernel) ?_
  refine lv_iushr hx hb dc_Pt_opposites_3 rfl ?_
  refine lv_iload_n hx hb dc_Pt_opposites_4 rfl (lv_at hl 0 rfl) ?_
  refine lv_bipush (v := nI 8) hx hb dc_Pt_opposites_5 (by decide +kernel) ?_
  refine lv_ishl hx hb dc_Pt_opposites_7 ?_
  refine kn_ldc (y := nI 65280) hx hb hown (hts _ wd_614) dc_Pt_opposites_8 (by decide +kernel) ?_
  refine lv_iand hx hb dc_Pt_opposites_10 ?_
  refine lv_ior hx hb dc_Pt_opposites_11 ?_
  refine kn_top (y := nI (nb_op x)) (nb_op_i hx16) ?_
  exact kr_iret hx hb hr hlocks dc_Pt_opposites_12 (rfl)

set_option maxHeartbeats 4000000 in
set_option maxRecDepth 100000 in
theorem ct_Pt_one (l : Launch) (D : va_G) (cI cZ : ClassId) (sz : Nat) (k : Nat) (hk : k < 62) : Met l yn_Pt_one (Cond.code yn_Pt_one bc_Pt_one 1 (some .long) :: kx_all) ({ frames := 0, cells := 0, slots := 0, locals := 0 } : Room) (kp [.int (nI k)] D cI cZ [] sz) (kr_q (some (.long (lN (2 ^ k))))) 0 0 (fun _ => False) := by
  refine kx_met (by decide) (Nat.le_of_ble_eq_true rfl) ?_
  intro p e s m below meth c ls hx hb hr hml hts hown hlocks hin hsz hP hK hD hN hl
  have hown : s.vm.findClass rn_Pt = some m.cls := hown
  have hl : lv_has ls 1 [(0, .int (nI k))] := hl
  refine lv_lconst (v := lN 1) hx hb dc_Pt_one_0 (by decide +kernel) ?_
  refine lv_iload_n hx hb dc_Pt_one_1 rfl (lv_at hl 0 rfl) ?_
  refine lv_lshl hx hb dc_Pt_one_2 rfl ?_
  refine kl_top (y := lN (2 ^ k)) (lb_shl1 k hk) ?_
  exact kr_lret hx hb hr hlocks dc_Pt_one_3 (rfl)

set_option maxHeartbeats 4000000 in
set_option maxRecDepth 100000 in
theorem ct_Pt_firstOnes (l : Launch) (D : va_G) (cI cZ : ClassId) (sz : Nat) (k : Nat) (hk : k < 61) : Met l yn_Pt_firstOnes (Cond.code yn_Pt_firstOnes bc_Pt_firstOnes 1 (some .long) :: kx_all) ({ frames := 0, cells := 0, slots := 0, locals := 0 } : Room) (kp [.int (nI k)] D cI cZ [] sz) (kr_q (some (.long (lN (2 ^ (k + 1) - 2))))) 0 0 (fun _ => False) := by
  refine kx_met (by decide) (Nat.le_of_ble_eq_true rfl) ?_
  intro p e s m below meth c ls hx hb hr hml hts hown hlocks hin hsz hP hK hD hN hl
  have hown : s.vm.findClass rn_Pt = some m.cls := hown
  have hl : lv_has ls 1 [(0, .int (nI k))] := hl
  refine lv_lconst (v := lN 1) hx hb dc_Pt_firstOnes_0 (by decide +kernel) ?_
  refine lv_iload_n hx hb dc_Pt_firstOnes_1 rfl (lv_at hl 0 rfl) ?_
  refine lv_iconst (v := nI 1) hx hb dc_Pt_firstOnes_2 (by decide +kernel) ?_
  refine kn_iadd hx hb dc_Pt_firstOnes_3 ?_
  refine lv_lshl hx hb dc_Pt_firstOnes_4 rfl ?_
  refine kl_top (y := lN (2 ^ (k + 1))) (lb_shl1 (k + 1) (by omega)) ?_
  refine kl_ldc2 (y := lN 2) hx hb hown (hts _ wd_551) dc_Pt_firstOnes_5 (by decide +kernel) ?_
  refine lv_lsub hx hb dc_Pt_firstOnes_8 ?_
  refine kl_top (y := lN (2 ^ (k + 1) - 2)) (lN_sub (by have h9 : 2 ^ 1 ≤ 2 ^ (k + 1) := Nat.pow_le_pow_right (by decide) (by omega); omega)) ?_
  exact kr_lret hx hb hr hlocks dc_Pt_firstOnes_9 (rfl)

set_option maxHeartbeats 4000000 in
set_option maxRecDepth 100000 in
theorem ct_Pt_contains (l : Launch) (D : va_G) (cI cZ : ClassId) (sz : Nat) (a : Nat) (k : Nat) (ha : a < 2 ^ 62) (hk : k < 62) : Met l yn_Pt_contains (Cond.code yn_Pt_contains bc_Pt_contains 3 (some .boolean) :: kx_all) ({ frames := 0, cells := 0, slots := 0, locals := 0 } : Room) (kp [.long (lN a), .int (nI k)] D cI cZ [] sz) (kr_q (some (.int (kb_i (a.testBit k))))) 0 0 (fun _ => False) := by
  refine kx_met (by decide) (Nat.le_of_ble_eq_true rfl) ?_
  intro p e s m below meth c ls hx hb hr hml hts hown hlocks hin hsz hP hK hD hN hl
  have hown : s.vm.findClass rn_Pt = some m.cls := hown
  have hl : lv_has ls 3 [(0, .long (lN a)), (2, .int (nI k))] := hl
  refine lv_lload_n hx hb dc_Pt_contains_0 rfl (lv_at hl 0 rfl) ?_
  refine lv_lconst (v := lN 1) hx hb dc_Pt_contains_1 (by decide +kernel) ?_
  refine lv_iload_n hx hb dc_Pt_contains_2 rfl (lv_at hl 1 rfl) ?_
  refine lv_lshl hx hb dc_Pt_contains_3 rfl ?_
  refine kl_top (y := lN (2 ^ k)) (lb_shl1 k hk) ?_
  refine kl_land hx hb dc_Pt_contains_4 ?_
  refine lv_lconst (v := lN 0) hx hb dc_Pt_contains_5 (by decide +kernel) ?_
  refine W.lcmp hx hb dc_Pt_contains_6 ?_
  refine lv_if_eq hx hb dc_Pt_contains_7 rfl (fun hc7 => ?_) (fun hc7 => ?_)
  · refine lv_iconst (v := nI 0) hx hb dc_Pt_contains_14 (by decide +kernel) ?_
    refine kn_top (y := kb_i false) (by decide +kernel) ?_
    exact kr_zret hx hb hr hlocks dc_Pt_contains_15 (((pt_bit0 ha hk).mp hc7).symm)
  · refine lv_iconst (v := nI 1) hx hb dc_Pt_contains_10 (by decide +kernel) ?_
    refine lv_goto hx hb dc_Pt_contains_11 rfl ?_
    refine kn_top (y := kb_i true) (by decide +kernel) ?_
    exact kr_zret hx hb hr hlocks dc_Pt_contains_15 ((by cases h9 : a.testBit k with | true => rfl | false => exact absurd ((pt_bit0 ha hk).mpr h9) hc7))
