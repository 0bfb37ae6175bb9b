/-! the JDK's methods of texts -/
abbrev yn_St_length : MethodName := ⟨"java/lang/String", "length", "()I"⟩
theorem yd_St_length : yn_St_length.cls ≠ "java/lang/invoke/MethodHandle" ∧ yn_St_length.cls ≠ "java/lang/invoke/VarHandle" ∧ (parseMethodDescriptor yn_St_length.desc).map (fun d => d.parameters.length) = some 0 := by decide +kernel
abbrev yn_St_coder : MethodName := ⟨"java/lang/String", "coder", "()B"⟩
theorem yd_St_coder : yn_St_coder.cls ≠ "java/lang/invoke/MethodHandle" ∧ yn_St_coder.cls ≠ "java/lang/invoke/VarHandle" ∧ (parseMethodDescriptor yn_St_coder.desc).map (fun d => d.parameters.length) = some 0 := by decide +kernel
abbrev yn_St_charAt : MethodName := ⟨"java/lang/String", "charAt", "(I)C"⟩
theorem yd_St_charAt : yn_St_charAt.cls ≠ "java/lang/invoke/MethodHandle" ∧ yn_St_charAt.cls ≠ "java/lang/invoke/VarHandle" ∧ (parseMethodDescriptor yn_St_charAt.desc).map (fun d => d.parameters.length) = some 1 := by decide +kernel
abbrev yn_St_isLatin1 : MethodName := ⟨"java/lang/String", "isLatin1", "()Z"⟩
theorem yd_St_isLatin1 : yn_St_isLatin1.cls ≠ "java/lang/invoke/MethodHandle" ∧ yn_St_isLatin1.cls ≠ "java/lang/invoke/VarHandle" ∧ (parseMethodDescriptor yn_St_isLatin1.desc).map (fun d => d.parameters.length) = some 0 := by decide +kernel
abbrev yn_Sl_charAt : MethodName := ⟨"java/lang/StringLatin1", "charAt", "([BI)C"⟩
theorem yd_Sl_charAt : yn_Sl_charAt.cls ≠ "java/lang/invoke/MethodHandle" ∧ yn_Sl_charAt.cls ≠ "java/lang/invoke/VarHandle" ∧ (parseMethodDescriptor yn_Sl_charAt.desc).map (fun d => d.parameters.length) = some 2 := by decide +kernel
abbrev yn_St_checkIndex : MethodName := ⟨"java/lang/String", "checkIndex", "(II)V"⟩
theorem yd_St_checkIndex : yn_St_checkIndex.cls ≠ "java/lang/invoke/MethodHandle" ∧ yn_St_checkIndex.cls ≠ "java/lang/invoke/VarHandle" ∧ (parseMethodDescriptor yn_St_checkIndex.desc).map (fun d => d.parameters.length) = some 2 := by decide +kernel
abbrev yn_Pc_checkIndex : MethodName := ⟨"jdk/internal/util/Preconditions", "checkIndex", "(IILjava/util/function/BiFunction;)I"⟩
theorem yd_Pc_checkIndex : yn_Pc_checkIndex.cls ≠ "java/lang/invoke/MethodHandle" ∧ yn_Pc_checkIndex.cls ≠ "java/lang/invoke/VarHandle" ∧ (parseMethodDescriptor yn_Pc_checkIndex.desc).map (fun d => d.parameters.length) = some 3 := by decide +kernel
abbrev yn_Lo_bitCount : MethodName := ⟨"java/lang/Long", "bitCount", "(J)I"⟩
theorem yd_Lo_bitCount : yn_Lo_bitCount.cls ≠ "java/lang/invoke/MethodHandle" ∧ yn_Lo_bitCount.cls ≠ "java/lang/invoke/VarHandle" ∧ (parseMethodDescriptor yn_Lo_bitCount.desc).map (fun d => d.parameters.length) = some 1 := by decide +kernel
theorem wx_11 : Cond.initialized "java/lang/String" ∈ kx_all := kx_1 11 rfl rfl
theorem wx_12 : Cond.initialized "java/lang/StringLatin1" ∈ kx_all := kx_1 12 rfl rfl
theorem wx_13 : Cond.initialized "jdk/internal/util/Preconditions" ∈ kx_all := kx_1 13 rfl rfl
theorem wx_341 : Cond.instanceMethod ⟨"java/lang/String", "length", "()I"⟩ ∈ kx_all := kx_2 101 rfl rfl
theorem wx_342 : Cond.selects "java/lang/String" ⟨"java/lang/String", "length", "()I"⟩ ⟨"java/lang/String", "length", "()I"⟩ ∈ kx_all := kx_2 102 rfl rfl
theorem wx_343 : Cond.code ⟨"java/lang/String", "length", "()I"⟩ prog_19_method_54_code 1 (Option.some .int) ∈ kx_all := kx_2 103 rfl rfl
theorem wx_344 : Cond.methodLink "java/lang/String" 335 ⟨"java/lang/String", "coder", "()B"⟩ ∈ kx_all := kx_2 104 rfl rfl
theorem wx_345 : Cond.instanceMethod ⟨"java/lang/String", "coder", "()B"⟩ ∈ kx_all := kx_2 105 rfl rfl
theorem wx_346 : Cond.selects "java/lang/String" ⟨"java/lang/String", "coder", "()B"⟩ ⟨"java/lang/String", "coder", "()B"⟩ ∈ kx_all := kx_2 106 rfl rfl
theorem wx_347 : Cond.code ⟨"java/lang/String", "coder", "()B"⟩ prog_19_method_152_code 1 (Option.some .byte) ∈ kx_all := kx_2 107 rfl rfl
theorem wx_348 : Cond.fieldLink "java/lang/String" 38 "java/lang/String" "COMPACT_STRINGS" "Z" ∈ kx_all := kx_2 108 rfl rfl
theorem wx_351 : Cond.instanceMethod ⟨"java/lang/String", "charAt", "(I)C"⟩ ∈ kx_all := kx_2 111 rfl rfl
theorem wx_352 : Cond.selects "java/lang/String" ⟨"java/lang/String", "charAt", "(I)C"⟩ ⟨"java/lang/String", "charAt", "(I)C"⟩ ∈ kx_all := kx_2 112 rfl rfl
theorem wx_353 : Cond.code ⟨"java/lang/String", "charAt", "(I)C"⟩ prog_19_method_56_code 2 (Option.some .char) ∈ kx_all := kx_2 113 rfl rfl
theorem wx_354 : Cond.methodLink "java/lang/String" 492 ⟨"java/lang/String", "isLatin1", "()Z"⟩ ∈ kx_all := kx_2 114 rfl rfl
theorem wx_355 : Cond.instanceMethod ⟨"java/lang/String", "isLatin1", "()Z"⟩ ∈ kx_all := kx_2 115 rfl rfl
theorem wx_356 : Cond.selects "java/lang/String" ⟨"java/lang/String", "isLatin1", "()Z"⟩ ⟨"java/lang/String", "isLatin1", "()Z"⟩ ∈ kx_all := kx_2 116 rfl rfl
theorem wx_357 : Cond.code ⟨"java/lang/String", "isLatin1", "()Z"⟩ prog_19_method_154_code 1 (Option.some .boolean) ∈ kx_all := kx_2 117 rfl rfl
theorem wx_358 : Cond.methodLink "java/lang/String" 495 ⟨"java/lang/StringLatin1", "charAt", "([BI)C"⟩ ∈ kx_all := kx_2 118 rfl rfl
theorem wx_359 : Cond.static ⟨"java/lang/StringLatin1", "charAt", "([BI)C"⟩ ∈ kx_all := kx_2 119 rfl rfl
theorem wx_360 : Cond.code ⟨"java/lang/StringLatin1", "charAt", "([BI)C"⟩ prog_20_method_2_code 2 (Option.some .char) ∈ kx_all := kx_2 120 rfl rfl
theorem wx_361 : Cond.methodLink "java/lang/StringLatin1" 9 ⟨"java/lang/String", "checkIndex", "(II)V"⟩ ∈ kx_all := kx_2 121 rfl rfl
theorem wx_362 : Cond.static ⟨"java/lang/String", "checkIndex", "(II)V"⟩ ∈ kx_all := kx_2 122 rfl rfl
theorem wx_363 : Cond.code ⟨"java/lang/String", "checkIndex", "(II)V"⟩ prog_19_method_155_code 2 (Option.none : Option Jvm.ClassFile.FieldType) ∈ kx_all := kx_2 123 rfl rfl
theorem wx_364 : Cond.fieldLink "java/lang/String" 1053 "jdk/internal/util/Preconditions" "SIOOBE_FORMATTER" "Ljava/util/function/BiFunction;" ∈ kx_all := kx_2 124 rfl rfl
theorem wx_366 : Cond.methodLink "java/lang/String" 1059 ⟨"jdk/internal/util/Preconditions", "checkIndex", "(IILjava/util/function/BiFunction;)I"⟩ ∈ kx_all := kx_2 126 rfl rfl
theorem wx_367 : Cond.static ⟨"jdk/internal/util/Preconditions", "checkIndex", "(IILjava/util/function/BiFunction;)I"⟩ ∈ kx_all := kx_2 127 rfl rfl
theorem wx_368 : Cond.code ⟨"jdk/internal/util/Preconditions", "checkIndex", "(IILjava/util/function/BiFunction;)I"⟩ prog_23_method_11_code 3 (Option.some .int) ∈ kx_all := kx_2 128 rfl rfl
theorem wx_1055 : Cond.fieldLink "java/lang/String" 9 "java/lang/String" "value" "[B" ∈ kx_all := kx_5 95 rfl rfl
theorem wx_1056 : Cond.fieldLink "java/lang/String" 15 "java/lang/String" "coder" "B" ∈ kx_all := kx_5 96 rfl rfl
theorem dc_St_length_0 : decode prog_19_method_54_code 0 = .ok (.aload_n 0, 1) := by decide +kernel
theorem dc_St_length_1 : decode prog_19_method_54_code 1 = .ok (.getfield 9, 3) := by decide +kernel
theorem dc_St_length_4 : decode prog_19_method_54_code 4 = .ok (.arraylength, 1) := by decide +kernel
theorem dc_St_length_5 : decode prog_19_method_54_code 5 = .ok (.aload_n 0, 1) := by decide +kernel
theorem dc_St_length_6 : decode prog_19_method_54_code 6 = .ok (.invokevirtual 335, 3) := by decide +kernel
theorem dc_St_length_9 : decode prog_19_method_54_code 9 = .ok (.ishr, 1) := by decide +kernel
theorem dc_St_length_10 : decode prog_19_method_54_code 10 = .ok (.ireturn, 1) := by decide +kernel
theorem dc_St_coder_0 : decode prog_19_method_152_code 0 = .ok (.getstatic 38, 3) := by decide +kernel
theorem dc_St_coder_3 : decode prog_19_method_152_code 3 = .ok (.ifCond .eq (10), 3) := by decide +kernel
theorem dc_St_coder_6 : decode prog_19_method_152_code 6 = .ok (.aload_n 0, 1) := by decide +kernel
theorem dc_St_coder_7 : decode prog_19_method_152_code 7 = .ok (.getfield 15, 3) := by decide +kernel
theorem dc_St_coder_10 : decode prog_19_method_152_code 10 = .ok (.goto (4), 3) := by decide +kernel
theorem dc_St_coder_14 : decode prog_19_method_152_code 14 = .ok (.ireturn, 1) := by decide +kernel
theorem dc_St_charAt_0 : decode prog_19_method_56_code 0 = .ok (.aload_n 0, 1) := by decide +kernel
theorem dc_St_charAt_1 : decode prog_19_method_56_code 1 = .ok (.invokevirtual 492, 3) := by decide +kernel
theorem dc_St_charAt_4 : decode prog_19_method_56_code 4 = .ok (.ifCond .eq (12), 3) := by decide +kernel
theorem dc_St_charAt_7 : decode prog_19_method_56_code 7 = .ok (.aload_n 0, 1) := by decide +kernel
theorem dc_St_charAt_8 : decode prog_19_method_56_code 8 = .ok (.getfield 9, 3) := by decide +kernel
theorem dc_St_charAt_11 : decode prog_19_method_56_code 11 = .ok (.iload_n 1, 1) := by decide +kernel
theorem dc_St_charAt_12 : decode prog_19_method_56_code 12 = .ok (.invokestatic 495, 3) := by decide +kernel
theorem dc_St_charAt_15 : decode prog_19_method_56_code 15 = .ok (.ireturn, 1) := by decide +kernel
theorem dc_St_isLatin1_0 : decode prog_19_method_154_code 0 = .ok (.getstatic 38, 3) := by decide +kernel
theorem dc_St_isLatin1_3 : decode prog_19_method_154_code 3 = .ok (.ifCond .eq (14), 3) := by decide +kernel
theorem dc_St_isLatin1_6 : decode prog_19_method_154_code 6 = .ok (.aload_n 0, 1) := by decide +kernel
theorem dc_St_isLatin1_7 : decode prog_19_method_154_code 7 = .ok (.getfield 15, 3) := by decide +kernel
theorem dc_St_isLatin1_10 : decode prog_19_method_154_code 10 = .ok (.ifCond .ne (7), 3) := by decide +kernel
theorem dc_St_isLatin1_13 : decode prog_19_method_154_code 13 = .ok (.iconst 1, 1) := by decide +kernel
theorem dc_St_isLatin1_14 : decode prog_19_method_154_code 14 = .ok (.goto (4), 3) := by decide +kernel
theorem dc_St_isLatin1_18 : decode prog_19_method_154_code 18 = .ok (.ireturn, 1) := by decide +kernel
theorem dc_Sl_charAt_0 : decode prog_20_method_2_code 0 = .ok (.iload_n 1, 1) := by decide +kernel
theorem dc_Sl_charAt_1 : decode prog_20_method_2_code 1 = .ok (.aload_n 0, 1) := by decide +kernel
theorem dc_Sl_charAt_2 : decode prog_20_method_2_code 2 = .ok (.arraylength, 1) := by decide +kernel
theorem dc_Sl_charAt_3 : decode prog_20_method_2_code 3 = .ok (.invokestatic 9, 3) := by decide +kernel
theorem dc_Sl_charAt_6 : decode prog_20_method_2_code 6 = .ok (.aload_n 0, 1) := by decide +kernel
theorem dc_Sl_charAt_7 : decode prog_20_method_2_code 7 = .ok (.iload_n 1, 1) := by decide +kernel
theorem dc_Sl_charAt_8 : decode prog_20_method_2_code 8 = .ok (.baload, 1) := by decide +kernel
theorem dc_Sl_charAt_9 : decode prog_20_method_2_code 9 = .ok (.sipush (255), 3) := by decide +kernel
theorem dc_Sl_charAt_12 : decode prog_20_method_2_code 12 = .ok (.iand, 1) := by decide +kernel
theorem dc_Sl_charAt_13 : decode prog_20_method_2_code 13 = .ok (.i2c, 1) := by decide +kernel
theorem dc_Sl_charAt_14 : decode prog_20_method_2_code 14 = .ok (.ireturn, 1) := by decide +kernel
theorem dc_St_checkIndex_0 : decode prog_19_method_155_code 0 = .ok (.iload_n 0, 1) := by decide +kernel
theorem dc_St_checkIndex_1 : decode prog_19_method_155_code 1 = .ok (.iload_n 1, 1) := by decide +kernel
theorem dc_St_checkIndex_2 : decode prog_19_method_155_code 2 = .ok (.getstatic 1053, 3) := by decide +kernel
theorem dc_St_checkIndex_5 : decode prog_19_method_155_code 5 = .ok (.invokestatic 1059, 3) := by decide +kernel
theorem dc_St_checkIndex_8 : decode prog_19_method_155_code 8 = .ok (.pop, 1) := by decide +kernel
theorem dc_St_checkIndex_9 : decode prog_19_method_155_code 9 = .ok (.return_, 1) := by decide +kernel
theorem dc_Pc_checkIndex_0 : decode prog_23_method_11_code 0 = .ok (.iload_n 0, 1) := by decide +kernel
theorem dc_Pc_checkIndex_1 : decode prog_23_method_11_code 1 = .ok (.ifCond .lt (8), 3) := by decide +kernel
theorem dc_Pc_checkIndex_4 : decode prog_23_method_11_code 4 = .ok (.iload_n 0, 1) := by decide +kernel
theorem dc_Pc_checkIndex_5 : decode prog_23_method_11_code 5 = .ok (.iload_n 1, 1) := by decide +kernel
theorem dc_Pc_checkIndex_6 : decode prog_23_method_11_code 6 = .ok (.if_icmp .lt (10), 3) := by decide +kernel
theorem dc_Pc_checkIndex_16 : decode prog_23_method_11_code 16 = .ok (.iload_n 0, 1) := by decide +kernel
theorem dc_Pc_checkIndex_17 : decode prog_23_method_11_code 17 = .ok (.ireturn, 1) := by decide +kernel
section KC0
variable {p : Program} {l : Launch} {e : Env} {R : Room} {s : State} {m : MethodId} {args : Array Value} {below : List Frame} {meth : Method} {c : Code} {H : Heap} {locs : List Loc} {cells slots : Nat} {Q : State → Prop}
variable {a : Array Value} {pc : Nat} {ls : Array Slot} {st0 rest : List Value}
theorem kr_call0 (hr : va_Run p l e R s m args below meth c H locs cells slots 0 0 (F0 m pc ls st0) rest (kr_q none a) (fun _ => False)) (kk : W p l e R s m args below meth c H locs cells slots Q (F0 m (pc + 3) ls rest)) : W p l e R s m args below meth c H locs cells slots Q (F0 m pc ls st0) := kr_call hr kk
end KC0
set_option maxHeartbeats 4000000 in
set_option maxRecDepth 100000 in
theorem ct_St_coder (l : Launch) (D : va_G) (cI cZ : ClassId) (sz : Nat) (X Y : Nat → Nat) (i : Nat) (hi : i < 3) : Met l yn_St_coder (Cond.code yn_St_coder prog_19_method_152_code 1 (some .byte) :: kx_all) ({ frames := 0, cells := 0, slots := 0, locals := 0 } : Room) (kq X Y [.ref (X i)] D cI cZ [] sz) (kr_q (some (.int 0))) 0 0 (fun _ => False) := by
  refine kx_metQr (by decide) (Nat.le_of_ble_eq_true rfl) ?_
  intro p e s m below meth c ls A hx hb hr hml hts hown hlocks hin hA hP hK hD hN hl hS hF
  have hown : s.vm.findClass "java/lang/String" = some m.cls := hown
  have hl : lv_has ls 1 [(0, .ref (X i))] := hl
  refine va_gets hx hb hF.2.2.1 hS hown (hts _ wx_348) (fun _ h => h) dc_St_coder_0 ?_
  refine lv_if_eq hx hb dc_St_coder_3 rfl (fun hc => absurd hc (by decide)) (fun _ => ?_)
  refine lv_aload_n hx hb dc_St_coder_6 rfl (lv_at hl 0 rfl) ?_
  refine vk_getf hx hb (hF.1.1 i hi).2.1 hS hown (hts _ wx_1056) (fun _ h => h) dc_St_coder_7 ?_
  refine lv_goto hx hb dc_St_coder_10 rfl ?_
  exact kr_nret hx hb hr hlocks rfl dc_St_coder_14
set_option maxHeartbeats 4000000 in
set_option maxRecDepth 100000 in
theorem ct_St_isLatin1 (l : Launch) (D : va_G) (cI cZ : ClassId) (sz : Nat) (X Y : Nat → Nat) (i : Nat) (hi : i < 3) : Met l yn_St_isLatin1 (Cond.code yn_St_isLatin1 prog_19_method_154_code 1 (some .boolean) :: kx_all) ({ frames := 0, cells := 0, slots := 0, locals := 0 } : Room) (kq X Y [.ref (X i)] D cI cZ [] sz) (kr_q (some (.int 1))) 0 0 (fun _ => False) := by
  refine kx_metQr (by decide) (Nat.le_of_ble_eq_true rfl) ?_
  intro p e s m below meth c ls A hx hb hr hml hts hown hlocks hin hA hP hK hD hN hl hS hF
  have hown : s.vm.findClass "java/lang/String" = some m.cls := hown
  have hl : lv_has ls 1 [(0, .ref (X i))] := hl
  refine va_gets hx hb hF.2.2.1 hS hown (hts _ wx_348) (fun _ h => h) dc_St_isLatin1_0 ?_
  refine lv_if_eq hx hb dc_St_isLatin1_3 rfl (fun hc => absurd hc (by decide)) (fun _ => ?_)
  refine lv_aload_n hx hb dc_St_isLatin1_6 rfl (lv_at hl 0 rfl) ?_
  refine vk_getf hx hb (hF.1.1 i hi).2.1 hS hown (hts _ wx_1056) (fun _ h => h) dc_St_isLatin1_7 ?_
  refine lv_if_ne hx hb dc_St_isLatin1_10 rfl (fun hc => absurd rfl hc) (fun _ => ?_)
  refine lv_iconst (v := 1) hx hb dc_St_isLatin1_13 (by decide +kernel) ?_
  refine lv_goto hx hb dc_St_isLatin1_14 rfl ?_
  exact kr_nret hx hb hr hlocks rfl dc_St_isLatin1_18
set_option maxHeartbeats 4000000 in
set_option maxRecDepth 100000 in
theorem ct_St_length (l : Launch) (D : va_G) (cI cZ : ClassId) (sz : Nat) (X Y : Nat → Nat) (i : Nat) (hi : i < 3) : Met l yn_St_length (Cond.code yn_St_length prog_19_method_54_code 1 (some .int) :: kx_all) ({ frames := 1, cells := 0, slots := 0, locals := 20 } : Room) (kq X Y [.ref (X i)] D cI cZ [] sz) (kr_q (some (.int (nI (([1, 3, 1] : List Nat).getD i 0))))) 0 0 (fun _ => False) := by
  refine kx_metQr (by decide) (Nat.le_of_ble_eq_true rfl) ?_
  intro p e s m below meth c ls A hx hb hr hml hts hown hlocks hin hA hP hK hD hN hl hS hF
  have hown : s.vm.findClass "java/lang/String" = some m.cls := hown
  have hl : lv_has ls 1 [(0, .ref (X i))] := hl
  refine lv_aload_n hx hb dc_St_length_0 rfl (lv_at hl 0 rfl) ?_
  refine vk_getf hx hb (hF.1.1 i hi).2.2.1 hS hown (hts _ wx_1055) (fun _ h => h) dc_St_length_1 ?_
  refine va_tlen hx hb (hF.1.1 i hi).2.2.2 hS (v := nI (([1, 3, 1] : List Nat).getD i 0)) rfl dc_St_length_4 ?_
  refine lv_aload_n hx hb dc_St_length_5 rfl (lv_at hl 0 rfl) ?_
  refine kr_call1 (va_runV (As := []) (rest := [.int (nI (([1, 3, 1] : List Nat).getD i 0))]) ⟨hx, hb, hml, hown, hts⟩ (ct_St_coder l D cI cZ _ X Y i hi) (cwV 0 hts (kx_gV wx_344 wx_345 wx_346 wx_11 wx_347) rfl rfl rfl ⟨rfl, yd_St_coder⟩ ⟨Nat.le_of_ble_eq_true rfl, Nat.le_of_ble_eq_true rfl⟩) (kq_T (i := i) hP hD hK hN hF hS hA [] rfl rfl hi) rfl rfl hl.1 rfl (lv_room (Nat.le_of_ble_eq_true rfl)) dc_St_length_6 ⟨Nat.le_of_ble_eq_true rfl, Nat.le_of_ble_eq_true rfl⟩) ?_
  refine lv_ishr hx hb dc_St_length_9 ?_
  refine kn_top (y := nI (([1, 3, 1] : List Nat).getD i 0)) (by
    have h3 : i = 0 ∨ i = 1 ∨ i = 2 := by omega
    rcases h3 with h | h | h <;> subst h <;> decide +kernel) ?_
  exact kr_iret hx hb hr hlocks dc_St_length_10 rfl
set_option maxHeartbeats 4000000 in
set_option maxRecDepth 100000 in
theorem ct_Pc_checkIndex (l : Launch) (D : va_G) (cI cZ : ClassId) (sz : Nat) (X Y : Nat → Nat) (g i n : Nat) (hi : i < n) (hn : n < 2 ^ 31) : Met l yn_Pc_checkIndex (Cond.code yn_Pc_checkIndex prog_23_method_11_code 3 (some .int) :: kx_all) ({ frames := 0, cells := 0, slots := 0, locals := 0 } : Room) (kq X Y [.int (nI i), .int (nI n), (.ref g)] D cI cZ [] sz) (kr_q (some (.int (nI i)))) 0 0 (fun _ => False) := by
  refine kx_metQr (by decide) (Nat.le_of_ble_eq_true rfl) ?_
  intro p e s m below meth c ls A hx hb hr hml hts hown hlocks hin hA hP hK hD hN hl hS hF
  have hown : s.vm.findClass "jdk/internal/util/Preconditions" = some m.cls := hown
  have hl : lv_has ls 3 [(0, .int (nI i)), (1, .int (nI n)), (2, (.ref g))] := hl
  refine lv_iload_n hx hb dc_Pc_checkIndex_0 rfl (lv_at hl 0 rfl) ?_
  refine lv_if_lt hx hb dc_Pc_checkIndex_1 rfl (fun hc => absurd hc (nI_p (by omega))) (fun _ => ?_)
  refine lv_iload_n hx hb dc_Pc_checkIndex_4 rfl (lv_at hl 0 rfl) ?_
  refine lv_iload_n hx hb dc_Pc_checkIndex_5 rfl (lv_at hl 1 rfl) ?_
  refine kn_icmp_lt hx hb (by omega) hn dc_Pc_checkIndex_6 rfl (fun _ => ?_) (fun hc => absurd hi (by omega))
  refine lv_iload_n hx hb dc_Pc_checkIndex_16 rfl (lv_at hl 0 rfl) ?_
  exact kr_iret hx hb hr hlocks dc_Pc_checkIndex_17 rfl
set_option maxHeartbeats 4000000 in
set_option maxRecDepth 100000 in
theorem ct_Pc_checkIndex_n (l : Launch) (D : va_G) (cI cZ : ClassId) (sz : Nat) (X Y : Nat → Nat) (g i n : Nat) (hi : i < n) (hn : n < 2 ^ 31) : Met l yn_Pc_checkIndex (Cond.code yn_Pc_checkIndex prog_23_method_11_code 3 (some .int) :: kx_all) ({ frames := 0, cells := 0, slots := 0, locals := 0 } : Room) (kq X Y [.int (nI i), .int (nI n), .null] D cI cZ [] sz) (kr_q (some (.int (nI i)))) 0 0 (fun _ => False) := by
  refine kx_metQr (by decide) (Nat.le_of_ble_eq_true rfl) ?_
  intro p e s m below meth c ls A hx hb hr hml hts hown hlocks hin hA hP hK hD hN hl hS hF
  have hown : s.vm.findClass "jdk/internal/util/Preconditions" = some m.cls := hown
  have hl : lv_has ls 3 [(0, .int (nI i)), (1, .int (nI n)), (2, .null)] := hl
  refine lv_iload_n hx hb dc_Pc_checkIndex_0 rfl (lv_at hl 0 rfl) ?_
  refine lv_if_lt hx hb dc_Pc_checkIndex_1 rfl (fun hc => absurd hc (nI_p (by omega))) (fun _ => ?_)
  refine lv_iload_n hx hb dc_Pc_checkIndex_4 rfl (lv_at hl 0 rfl) ?_
  refine lv_iload_n hx hb dc_Pc_checkIndex_5 rfl (lv_at hl 1 rfl) ?_
  refine kn_icmp_lt hx hb (by omega) hn dc_Pc_checkIndex_6 rfl (fun _ => ?_) (fun hc => absurd hi (by omega))
  refine lv_iload_n hx hb dc_Pc_checkIndex_16 rfl (lv_at hl 0 rfl) ?_
  exact kr_iret hx hb hr hlocks dc_Pc_checkIndex_17 rfl
set_option maxHeartbeats 4000000 in
set_option maxRecDepth 100000 in
theorem ct_St_checkIndex (l : Launch) (D : va_G) (cI cZ : ClassId) (sz : Nat) (X Y : Nat → Nat) (i n : Nat) (hi : i < n) (hn : n < 2 ^ 31) : Met l yn_St_checkIndex (Cond.code yn_St_checkIndex prog_19_method_155_code 2 none :: kx_all) ({ frames := 1, cells := 0, slots := 0, locals := 22 } : Room) (kq X Y [.int (nI i), .int (nI n)] D cI cZ [] sz) (kr_q none) 0 0 (fun _ => False) := by
  refine kx_metQr (by decide) (Nat.le_of_ble_eq_true rfl) ?_
  intro p e s m below meth c ls A hx hb hr hml hts hown hlocks hin hA hP hK hD hN hl hS hF
  have hown : s.vm.findClass "java/lang/String" = some m.cls := hown
  have hl : lv_has ls 2 [(0, .int (nI i)), (1, .int (nI n))] := hl
  refine lv_iload_n hx hb dc_St_checkIndex_0 rfl (lv_at hl 0 rfl) ?_
  refine lv_iload_n hx hb dc_St_checkIndex_1 rfl (lv_at hl 1 rfl) ?_
  rcases hF.2.2.2.1 with hz | ⟨g, hz⟩
  · refine va_gets hx hb hz hS hown (hts _ wx_364) (fun _ h => h) dc_St_checkIndex_2 ?_
    refine kr_call1 (va_runS (As := [.int (nI i), .int (nI n), .null]) (rest := []) ⟨hx, hb, hml, hown, hts⟩ (ct_Pc_checkIndex_n l D cI cZ _ X Y 0 i n hi hn) (kw_cX 3 hts (kx_gi wx_368) rfl rfl rfl (hts _ wx_366) (hts _ wx_367) (hts _ wx_13) yd_Pc_checkIndex ⟨Nat.le_of_ble_eq_true rfl, Nat.le_of_ble_eq_true rfl⟩) (kq_S hP hD hK hN hF hS hA [] rfl rfl) rfl rfl hl.1 rfl (lv_room (Nat.le_of_ble_eq_true rfl)) dc_St_checkIndex_5 ⟨Nat.le_of_ble_eq_true rfl, Nat.le_of_ble_eq_true rfl⟩) ?_
    refine lv_pop hx hb dc_St_checkIndex_8 rfl ?_
    exact kr_vret hx hb hr hlocks dc_St_checkIndex_9
  · refine va_gets hx hb hz hS hown (hts _ wx_364) (fun _ h => h) dc_St_checkIndex_2 ?_
    refine kr_call1 (va_runS (As := [.int (nI i), .int (nI n), .ref g]) (rest := []) ⟨hx, hb, hml, hown, hts⟩ (ct_Pc_checkIndex l D cI cZ _ X Y g i n hi hn) (kw_cX 3 hts (kx_gi wx_368) rfl rfl rfl (hts _ wx_366) (hts _ wx_367) (hts _ wx_13) yd_Pc_checkIndex ⟨Nat.le_of_ble_eq_true rfl, Nat.le_of_ble_eq_true rfl⟩) (kq_S hP hD hK hN hF hS hA [] rfl rfl) rfl rfl hl.1 rfl (lv_room (Nat.le_of_ble_eq_true rfl)) dc_St_checkIndex_5 ⟨Nat.le_of_ble_eq_true rfl, Nat.le_of_ble_eq_true rfl⟩) ?_
    refine lv_pop hx hb dc_St_checkIndex_8 rfl ?_
    exact kr_vret hx hb hr hlocks dc_St_checkIndex_9
set_option maxHeartbeats 4000000 in
set_option maxRecDepth 100000 in
theorem ct_Sl_charAt (l : Launch) (D : va_G) (cI cZ : ClassId) (sz : Nat) (X Y : Nat → Nat) (i j : Nat) (hi : i < 3) (hj : j < ([1, 3, 1] : List Nat).getD i 0) : Met l yn_Sl_charAt (Cond.code yn_Sl_charAt prog_20_method_2_code 2 (some .char) :: kx_all) ({ frames := 2, cells := 0, slots := 0, locals := 43 } : Room) (kq X Y [.ref (Y i), .int (nI j)] D cI cZ [] sz) (kr_q (some (.int ((([[112], [99, 110, 102], [100]] : List (List Int32)).getD i []).getD j 0)))) 0 0 (fun _ => False) := by
  refine kx_metQr (by decide) (Nat.le_of_ble_eq_true rfl) ?_
  intro p e s m below meth c ls A hx hb hr hml hts hown hlocks hin hA hP hK hD hN hl hS hF
  have hown : s.vm.findClass "java/lang/StringLatin1" = some m.cls := hown
  have hl : lv_has ls 2 [(0, .ref (Y i)), (1, .int (nI j))] := hl
  have hL3 : ([1, 3, 1] : List Nat).getD i 0 ≤ 3 := by
    have h3 : i = 0 ∨ i = 1 ∨ i = 2 := by omega
    rcases h3 with h | h | h <;> subst h <;> decide
  refine lv_iload_n hx hb dc_Sl_charAt_0 rfl (lv_at hl 1 rfl) ?_
  refine lv_aload_n hx hb dc_Sl_charAt_1 rfl (lv_at hl 0 rfl) ?_
  refine va_tlen hx hb (hF.1.1 i hi).2.2.2 hS (v := nI (([1, 3, 1] : List Nat).getD i 0)) rfl dc_Sl_charAt_2 ?_
  refine kr_call0 (va_runS (As := [.int (nI j), .int (nI (([1, 3, 1] : List Nat).getD i 0))]) (rest := []) ⟨hx, hb, hml, hown, hts⟩ (ct_St_checkIndex l D cI cZ _ X Y j (([1, 3, 1] : List Nat).getD i 0) hj (by omega)) (kw_cX 2 hts (kx_gi wx_363) rfl rfl rfl (hts _ wx_361) (hts _ wx_362) (hts _ wx_11) yd_St_checkIndex ⟨Nat.le_of_ble_eq_true rfl, Nat.le_of_ble_eq_true rfl⟩) (kq_S hP hD hK hN hF hS hA [] rfl rfl) rfl rfl hl.1 rfl (lv_room (Nat.le_of_ble_eq_true rfl)) dc_Sl_charAt_3 ⟨Nat.le_of_ble_eq_true rfl, Nat.le_of_ble_eq_true rfl⟩) ?_
  refine lv_aload_n hx hb dc_Sl_charAt_6 rfl (lv_at hl 0 rfl) ?_
  refine lv_iload_n hx hb dc_Sl_charAt_7 rfl (lv_at hl 1 rfl) ?_
  refine va_tb hx hb (hF.1.1 i hi).2.2.2 hS (vp_in_nI hj (by omega)) (v := .int ((([[112], [99, 110, 102], [100]] : List (List Int32)).getD i []).getD j 0)) (by rw [nI_clamp (by omega)]) dc_Sl_charAt_8 ?_
  refine lv_sipush (v := 255) hx hb dc_Sl_charAt_9 (by decide +kernel) ?_
  refine lv_iand hx hb dc_Sl_charAt_12 ?_
  have hcs : ((([[112], [99, 110, 102], [100]] : List (List Int32)).getD i []).getD j 0) = ((([[112], [99, 110, 102], [100]] : List (List Int32)).getD i []).getD j 0) &&& 255 ∧ ((((([[112], [99, 110, 102], [100]] : List (List Int32)).getD i []).getD j 0) &&& 255).toUInt32 % 65536).toInt32 = (([[112], [99, 110, 102], [100]] : List (List Int32)).getD i []).getD j 0 ∧ narrow .char (.int ((([[112], [99, 110, 102], [100]] : List (List Int32)).getD i []).getD j 0)) = .int ((([[112], [99, 110, 102], [100]] : List (List Int32)).getD i []).getD j 0) := by
    have h3 : (i = 0 ∧ j = 0) ∨ (i = 1 ∧ (j = 0 ∨ j = 1 ∨ j = 2)) ∨ (i = 2 ∧ j = 0) := by
      have h4 : i = 0 ∨ i = 1 ∨ i = 2 := by omega
      rcases h4 with h | h | h <;> subst h <;> simp at hj ⊢ <;> omega
    rcases h3 with ⟨h, h4⟩ | ⟨h, h4 | h4 | h4⟩ | ⟨h, h4⟩ <;> subst h <;> subst h4 <;> decide +kernel
  refine lv_i2c hx hb dc_Sl_charAt_13 hcs.2.1 ?_
  exact kr_nret hx hb hr hlocks hcs.2.2 dc_Sl_charAt_14
set_option maxHeartbeats 4000000 in
set_option maxRecDepth 100000 in
theorem ct_St_charAt (l : Launch) (D : va_G) (cI cZ : ClassId) (sz : Nat) (X Y : Nat → Nat) (i j : Nat) (hi : i < 3) (hj : j < ([1, 3, 1] : List Nat).getD i 0) : Met l yn_St_charAt (Cond.code yn_St_charAt prog_19_method_56_code 2 (some .char) :: kx_all) ({ frames := 3, cells := 0, slots := 0, locals := 64 } : Room) (kq X Y [.ref (X i), .int (nI j)] D cI cZ [] sz) (kr_q (some (.int ((([[112], [99, 110, 102], [100]] : List (List Int32)).getD i []).getD j 0)))) 0 0 (fun _ => False) := by
  refine kx_metQr (by decide) (Nat.le_of_ble_eq_true rfl) ?_
  intro p e s m below meth c ls A hx hb hr hml hts hown hlocks hin hA hP hK hD hN hl hS hF
  have hown : s.vm.findClass "java/lang/String" = some m.cls := hown
  have hl : lv_has ls 2 [(0, .ref (X i)), (1, .int (nI j))] := hl
  refine lv_aload_n hx hb dc_St_charAt_0 rfl (lv_at hl 0 rfl) ?_
  refine kr_call1 (va_runV (As := []) (rest := []) ⟨hx, hb, hml, hown, hts⟩ (ct_St_isLatin1 l D cI cZ _ X Y i hi) (cwV 0 hts (kx_gV wx_354 wx_355 wx_356 wx_11 wx_357) rfl rfl rfl ⟨rfl, yd_St_isLatin1⟩ ⟨Nat.le_of_ble_eq_true rfl, Nat.le_of_ble_eq_true rfl⟩) (kq_T (i := i) hP hD hK hN hF hS hA [] rfl rfl hi) rfl rfl hl.1 rfl (lv_room (Nat.le_of_ble_eq_true rfl)) dc_St_charAt_1 ⟨Nat.le_of_ble_eq_true rfl, Nat.le_of_ble_eq_true rfl⟩) ?_
  refine lv_if_eq hx hb dc_St_charAt_4 rfl (fun hc => absurd hc (by decide)) (fun _ => ?_)
  refine lv_aload_n hx hb dc_St_charAt_7 rfl (lv_at hl 0 rfl) ?_
  refine vk_getf hx hb (hF.1.1 i hi).2.2.1 hS hown (hts _ wx_1055) (fun _ h => h) dc_St_charAt_8 ?_
  refine lv_iload_n hx hb dc_St_charAt_11 rfl (lv_at hl 1 rfl) ?_
  refine kr_call1 (va_runS (As := [.ref (Y i), .int (nI j)]) (rest := []) ⟨hx, hb, hml, hown, hts⟩ (ct_Sl_charAt l D cI cZ _ X Y i j hi hj) (kw_cX 2 hts (kx_gi wx_360) rfl rfl rfl (hts _ wx_358) (hts _ wx_359) (hts _ wx_12) yd_Sl_charAt ⟨Nat.le_of_ble_eq_true rfl, Nat.le_of_ble_eq_true rfl⟩) (kq_S hP hD hK hN hF hS hA [] rfl rfl) rfl rfl hl.1 rfl (lv_room (Nat.le_of_ble_eq_true rfl)) dc_St_charAt_12 ⟨Nat.le_of_ble_eq_true rfl, Nat.le_of_ble_eq_true rfl⟩) ?_
  have hcs : narrow .char (.int ((([[112], [99, 110, 102], [100]] : List (List Int32)).getD i []).getD j 0)) = .int ((([[112], [99, 110, 102], [100]] : List (List Int32)).getD i []).getD j 0) := by
    have h3 : (i = 0 ∧ j = 0) ∨ (i = 1 ∧ (j = 0 ∨ j = 1 ∨ j = 2)) ∨ (i = 2 ∧ j = 0) := by
      have h4 : i = 0 ∨ i = 1 ∨ i = 2 := by omega
      rcases h4 with h | h | h <;> subst h <;> simp at hj ⊢ <;> omega
    rcases h3 with ⟨h, h4⟩ | ⟨h, h4 | h4 | h4⟩ | ⟨h, h4⟩ <;> subst h <;> subst h4 <;> decide +kernel
  exact kr_nret hx hb hr hlocks hcs dc_St_charAt_15
