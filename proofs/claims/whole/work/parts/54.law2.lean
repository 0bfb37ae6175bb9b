/-! the law: its own rows -/
section KL
variable {p : Program} {l : Launch} {e : Env} {R : Room} {s : State} {m : MethodId} {args : Array Value} {below : List Frame} {meth : Method} {c : Code} {H : Heap} {locs : List Loc} {cells slots : Nat} {Q : State → Prop}
variable {cc : ByteArray} {pc : Nat} {ls : Array Slot} {rest : List Value} {A : Nat → Prop} {H0 : Heap} {b L : Nat} {zs : Nat → Int32}
/-- an int of the script -/
theorem ks_ld (hexec : p.tables.exec = Jvm.exec) (hb : c.code = cc) (hX : va_X b L zs s H0) (hbl : b < H0.size) (hbA : ¬ A b) (hS : va_S A H0 H locs) {j : Nat} (h : j < L) (hL : L ≤ 2048) (hdg : decode cc pc = .ok (.iaload, 1))
    (kk : W p l e R s m args below meth c H locs cells slots Q (F0 m (pc + 1) ls (.int (zs j) :: rest))) : W p l e R s m args below meth c H locs cells slots Q (F0 m pc ls (.int (nI j) :: .ref b :: rest)) :=
  va_sld hexec hb hX hbl hbA hS (vp_in_nI h (by omega)) hdg (by rw [nI_clamp (by omega)]; exact kk)
theorem ks_len (hexec : p.tables.exec = Jvm.exec) (hb : c.code = cc) (hX : va_X b L zs s H0) (hbl : b < H0.size) (hbA : ¬ A b) (hS : va_S A H0 H locs) (hdg : decode cc pc = .ok (.arraylength, 1))
    (kk : W p l e R s m args below meth c H locs cells slots Q (F0 m (pc + 1) ls (.int (nI L) :: rest))) : W p l e R s m args below meth c H locs cells slots Q (F0 m pc ls (.ref b :: rest)) :=
  va_slen hexec hb hX hbl hbA hS hdg kk
end KL
section KL2
variable {p : Program} {l : Launch} {e : Env} {R : Room} {s : State} {m : MethodId} {args : Array Value} {below : List Frame} {meth : Method} {c : Code} {H : Heap} {locs : List Loc} {cells slots : Nat}
variable {y : MethodName} {bytes cc : ByteArray} {maxL nL mc ms index : Nat} {ret : Option FieldType} {ws : List Cond} {rm : Room} {Pc : Array Value → State → Prop} {Qc : Array Value → State → Outcome → State → Prop} {free : Addr → Prop} {Ts : List Cond} {own : String} {As rest : List Value} {g : JFrame} {hs : List (Nat × Nat × Nat × Nat)}
/-- a helper with handlers is called -/
theorem kh_run (n : Nat) (S : CallFix p m c cc nL s args Ts own) (hM : Met l y (Cond.codeWith y bytes maxL ret hs :: ws) rm Pc Qc mc ms free) (hG : GoodIn Ts (Cond.codeWith y bytes maxL ret hs :: ws)) (hrc : rm.cells = mc) (hrs : rm.slots = ms) (hR : rm.frames + 1 ≤ R.frames ∧ 8 + (maxL + 11) + rm.locals ≤ R.locals)
    (hini : Cond.initialized y.cls ∈ Ts) (hy : y.cls ≠ "java/lang/invoke/MethodHandle" ∧ y.cls ≠ "java/lang/invoke/VarHandle" ∧ (parseMethodDescriptor y.desc).map (fun d => d.parameters.length) = some n) (hl : Cond.methodLink own index y ∈ Ts) (hst : Cond.static y ∈ Ts) (hp : PreS s H Pc As)
    (hg : g.method = m) (hn : As.length = n) (hsize : g.locals.size = nL) (hstack : g.stack = As.reverse ++ rest) (hW : 2 * g.monitorRoom + (rest.map fun v => v.category).sum ≤ 8) (hdg : decode cc g.pc = .ok (.invokestatic index, 3)) (hf : cells + mc ≤ R.cells ∧ slots + ms ≤ R.slots) :
    va_Run p l e R s m args below meth c H locs cells slots mc ms g rest (Qc As.toArray) free :=
  kh_runS S hM hrc hrs hR.1 hR.2 (fun w h a' U hW => word_at hW (hG w h).2 (S.2.2.2.2 w (hG w h).1)) List.mem_cons_self (S.2.2.2.2 _ (hG _ List.mem_cons_self).1) (S.2.2.2.2 _ hini) rfl ⟨hy.1, hy.2.1⟩ (fun sig h => by have h9 := hy.2.2; rw [h] at h9; exact (Option.some.inj h9).symm) (S.2.2.2.2 _ hl) (S.2.2.2.2 _ hst) hp hg hn hsize hstack hW hdg hf
end KL2
theorem lc_eq {oj : Nat → Int64} {u v : Int64} (h : u = v) : lg_cmp (vp_updL oj 0 u 0) v = 0 := by
  subst h
  unfold lg_cmp vp_updL
  rw [if_pos rfl, if_neg (fun q => absurd q (Int64.lt_irrefl)), if_pos rfl]
theorem lw_sw (x : Int32) : ∃ k, k < 16 ∧ x &&& nI 15 = nI k := by
  refine ⟨x.toBitVec.toNat % 16, Nat.mod_lt _ (by decide), ?_⟩
  apply Int32.toBitVec_inj.mp
  apply BitVec.eq_of_toNat_eq
  rw [Int32.toBitVec_and, BitVec.toNat_and]
  have h1 : (nI 15).toBitVec.toNat = 2 ^ 4 - 1 := by decide +kernel
  rw [h1, Nat.and_two_pow_sub_one_eq_mod]
  unfold nI
  rw [Int32.toBitVec_ofNat', BitVec.toNat_ofNat]
  omega
theorem lw_more {i L : Nat} (hi : i ≤ 2048) (hL : L ≤ 2048) (h : ¬ nI L - nI 4 < nI i) : i + 4 ≤ L := by
  rw [Int32.lt_iff_toInt_lt, nI_toInt (by omega)] at h
  have h2 : (nI L - nI 4).toInt = (L : Int) - 4 := by
    rw [Int32.toInt_sub, nI_toInt (by omega), nI_toInt (by omega)]
    rw [Int.bmod_eq_of_le] <;> omega
  rw [h2] at h
  omega

theorem wx_298 : Cond.codeWith yn_La_formula bc_La_formula 3 (some .int) [(0, 8, 11, 13)] ∈ kx_all := kx_2 58 rfl rfl
theorem wx_506 : Cond.codeWith yn_La_proof bc_La_proof 4 (some .int) [(0, 9, 12, 19), (0, 9, 15, 13)] ∈ kx_all := kx_3 26 rfl rfl
theorem wx_564 : Cond.codeWith yn_La_check bc_La_check 3 (some .int) [(0, 8, 11, 19)] ∈ kx_all := kx_3 84 rfl rfl
theorem wx_665 : Cond.codeWith yn_La_verify bc_La_verify 3 (some .int) [(0, 8, 11, 19)] ∈ kx_all := kx_3 185 rfl rfl
theorem wx_730 : Cond.codeWith yn_La_write bc_La_write 3 (some .int) [(0, 8, 11, 19)] ∈ kx_all := kx_4 10 rfl rfl
abbrev bc_La_law : ByteArray := code
theorem dc_La_law_0 : decode bc_La_law 0 = .ok (.new 8, 3) := by decide +kernel
theorem dc_La_law_3 : decode bc_La_law 3 = .ok (.dup, 1) := by decide +kernel
theorem dc_La_law_4 : decode bc_La_law 4 = .ok (.invokespecial 30, 3) := by decide +kernel
theorem dc_La_law_7 : decode bc_La_law 7 = .ok (.astore_n 1, 1) := by decide +kernel
theorem dc_La_law_8 : decode bc_La_law 8 = .ok (.new 31, 3) := by decide +kernel
theorem dc_La_law_11 : decode bc_La_law 11 = .ok (.dup, 1) := by decide +kernel
theorem dc_La_law_12 : decode bc_La_law 12 = .ok (.invokespecial 33, 3) := by decide +kernel
theorem dc_La_law_15 : decode bc_La_law 15 = .ok (.astore_n 2, 1) := by decide +kernel
theorem dc_La_law_16 : decode bc_La_law 16 = .ok (.iconst 1, 1) := by decide +kernel
theorem dc_La_law_17 : decode bc_La_law 17 = .ok (.newarray .long, 2) := by decide +kernel
theorem dc_La_law_19 : decode bc_La_law 19 = .ok (.astore_n 3, 1) := by decide +kernel
theorem dc_La_law_20 : decode bc_La_law 20 = .ok (.iconst 0, 1) := by decide +kernel
theorem dc_La_law_21 : decode bc_La_law 21 = .ok (.istore 4, 2) := by decide +kernel
theorem dc_La_law_23 : decode bc_La_law 23 = .ok (.iload 4, 2) := by decide +kernel
theorem dc_La_law_25 : decode bc_La_law 25 = .ok (.aload_n 0, 1) := by decide +kernel
theorem dc_La_law_26 : decode bc_La_law 26 = .ok (.arraylength, 1) := by decide +kernel
theorem dc_La_law_27 : decode bc_La_law 27 = .ok (.iconst 4, 1) := by decide +kernel
theorem dc_La_law_28 : decode bc_La_law 28 = .ok (.isub, 1) := by decide +kernel
theorem dc_La_law_29 : decode bc_La_law 29 = .ok (.if_icmp .gt (684), 3) := by decide +kernel
theorem dc_La_law_32 : decode bc_La_law 32 = .ok (.aload_n 0, 1) := by decide +kernel
theorem dc_La_law_33 : decode bc_La_law 33 = .ok (.iload 4, 2) := by decide +kernel
theorem dc_La_law_35 : decode bc_La_law 35 = .ok (.iaload, 1) := by decide +kernel
theorem dc_La_law_36 : decode bc_La_law 36 = .ok (.bipush (15), 2) := by decide +kernel
theorem dc_La_law_38 : decode bc_La_law 38 = .ok (.iand, 1) := by decide +kernel
theorem dc_La_law_116 : decode bc_La_law 116 = .ok (.aload_n 1, 1) := by decide +kernel
theorem dc_La_law_117 : decode bc_La_law 117 = .ok (.aload_n 0, 1) := by decide +kernel
theorem dc_La_law_118 : decode bc_La_law 118 = .ok (.iload 4, 2) := by decide +kernel
theorem dc_La_law_120 : decode bc_La_law 120 = .ok (.iconst 1, 1) := by decide +kernel
theorem dc_La_law_121 : decode bc_La_law 121 = .ok (.iadd, 1) := by decide +kernel
theorem dc_La_law_122 : decode bc_La_law 122 = .ok (.iaload, 1) := by decide +kernel
theorem dc_La_law_123 : decode bc_La_law 123 = .ok (.i2l, 1) := by decide +kernel
theorem dc_La_law_124 : decode bc_La_law 124 = .ok (.bipush (32), 2) := by decide +kernel
theorem dc_La_law_126 : decode bc_La_law 126 = .ok (.lshl, 1) := by decide +kernel
theorem dc_La_law_127 : decode bc_La_law 127 = .ok (.aload_n 0, 1) := by decide +kernel
theorem dc_La_law_128 : decode bc_La_law 128 = .ok (.iload 4, 2) := by decide +kernel
theorem dc_La_law_130 : decode bc_La_law 130 = .ok (.iconst 2, 1) := by decide +kernel
theorem dc_La_law_131 : decode bc_La_law 131 = .ok (.iadd, 1) := by decide +kernel
theorem dc_La_law_132 : decode bc_La_law 132 = .ok (.iaload, 1) := by decide +kernel
theorem dc_La_law_133 : decode bc_La_law 133 = .ok (.i2l, 1) := by decide +kernel
theorem dc_La_law_134 : decode bc_La_law 134 = .ok (.ldc2_w 34, 3) := by decide +kernel
theorem dc_La_law_137 : decode bc_La_law 137 = .ok (.land, 1) := by decide +kernel
theorem dc_La_law_138 : decode bc_La_law 138 = .ok (.lor, 1) := by decide +kernel
theorem dc_La_law_139 : decode bc_La_law 139 = .ok (.aload_n 0, 1) := by decide +kernel
theorem dc_La_law_140 : decode bc_La_law 140 = .ok (.iload 4, 2) := by decide +kernel
theorem dc_La_law_142 : decode bc_La_law 142 = .ok (.iconst 3, 1) := by decide +kernel
theorem dc_La_law_143 : decode bc_La_law 143 = .ok (.iadd, 1) := by decide +kernel
theorem dc_La_law_144 : decode bc_La_law 144 = .ok (.iaload, 1) := by decide +kernel
theorem dc_La_law_145 : decode bc_La_law 145 = .ok (.invokevirtual 36, 3) := by decide +kernel
theorem dc_La_law_148 : decode bc_La_law 148 = .ok (.aload_n 2, 1) := by decide +kernel
theorem dc_La_law_149 : decode bc_La_law 149 = .ok (.aload_n 0, 1) := by decide +kernel
theorem dc_La_law_150 : decode bc_La_law 150 = .ok (.iload 4, 2) := by decide +kernel
theorem dc_La_law_152 : decode bc_La_law 152 = .ok (.iconst 1, 1) := by decide +kernel
theorem dc_La_law_153 : decode bc_La_law 153 = .ok (.iadd, 1) := by decide +kernel
theorem dc_La_law_154 : decode bc_La_law 154 = .ok (.iaload, 1) := by decide +kernel
theorem dc_La_law_155 : decode bc_La_law 155 = .ok (.i2l, 1) := by decide +kernel
theorem dc_La_law_156 : decode bc_La_law 156 = .ok (.bipush (32), 2) := by decide +kernel
theorem dc_La_law_158 : decode bc_La_law 158 = .ok (.lshl, 1) := by decide +kernel
theorem dc_La_law_159 : decode bc_La_law 159 = .ok (.aload_n 0, 1) := by decide +kernel
theorem dc_La_law_160 : decode bc_La_law 160 = .ok (.iload 4, 2) := by decide +kernel
theorem dc_La_law_162 : decode bc_La_law 162 = .ok (.iconst 2, 1) := by decide +kernel
theorem dc_La_law_163 : decode bc_La_law 163 = .ok (.iadd, 1) := by decide +kernel
theorem dc_La_law_164 : decode bc_La_law 164 = .ok (.iaload, 1) := by decide +kernel
theorem dc_La_law_165 : decode bc_La_law 165 = .ok (.i2l, 1) := by decide +kernel
theorem dc_La_law_166 : decode bc_La_law 166 = .ok (.ldc2_w 34, 3) := by decide +kernel
theorem dc_La_law_169 : decode bc_La_law 169 = .ok (.land, 1) := by decide +kernel
theorem dc_La_law_170 : decode bc_La_law 170 = .ok (.lor, 1) := by decide +kernel
theorem dc_La_law_171 : decode bc_La_law 171 = .ok (.aload_n 0, 1) := by decide +kernel
theorem dc_La_law_172 : decode bc_La_law 172 = .ok (.iload 4, 2) := by decide +kernel
theorem dc_La_law_174 : decode bc_La_law 174 = .ok (.iconst 3, 1) := by decide +kernel
theorem dc_La_law_175 : decode bc_La_law 175 = .ok (.iadd, 1) := by decide +kernel
theorem dc_La_law_176 : decode bc_La_law 176 = .ok (.iaload, 1) := by decide +kernel
theorem dc_La_law_177 : decode bc_La_law 177 = .ok (.invokevirtual 40, 3) := by decide +kernel
theorem dc_La_law_180 : decode bc_La_law 180 = .ok (.if_icmp .eq (527), 3) := by decide +kernel
theorem dc_La_law_183 : decode bc_La_law 183 = .ok (.iconst 0, 1) := by decide +kernel
theorem dc_La_law_184 : decode bc_La_law 184 = .ok (.ireturn, 1) := by decide +kernel
theorem dc_La_law_185 : decode bc_La_law 185 = .ok (.aload_n 1, 1) := by decide +kernel
theorem dc_La_law_186 : decode bc_La_law 186 = .ok (.invokevirtual 41, 3) := by decide +kernel
theorem dc_La_law_189 : decode bc_La_law 189 = .ok (.aload_n 2, 1) := by decide +kernel
theorem dc_La_law_190 : decode bc_La_law 190 = .ok (.invokevirtual 44, 3) := by decide +kernel
theorem dc_La_law_193 : decode bc_La_law 193 = .ok (.if_icmp .eq (514), 3) := by decide +kernel
theorem dc_La_law_196 : decode bc_La_law 196 = .ok (.iconst 0, 1) := by decide +kernel
theorem dc_La_law_197 : decode bc_La_law 197 = .ok (.ireturn, 1) := by decide +kernel
theorem dc_La_law_198 : decode bc_La_law 198 = .ok (.aload_n 1, 1) := by decide +kernel
theorem dc_La_law_199 : decode bc_La_law 199 = .ok (.aload_n 3, 1) := by decide +kernel
theorem dc_La_law_200 : decode bc_La_law 200 = .ok (.invokestatic 45, 3) := by decide +kernel
theorem dc_La_law_203 : decode bc_La_law 203 = .ok (.istore 5, 2) := by decide +kernel
theorem dc_La_law_205 : decode bc_La_law 205 = .ok (.aload_n 2, 1) := by decide +kernel
theorem dc_La_law_206 : decode bc_La_law 206 = .ok (.invokevirtual 50, 3) := by decide +kernel
theorem dc_La_law_209 : decode bc_La_law 209 = .ok (.istore 6, 2) := by decide +kernel
theorem dc_La_law_211 : decode bc_La_law 211 = .ok (.aload_n 2, 1) := by decide +kernel
theorem dc_La_law_212 : decode bc_La_law 212 = .ok (.invokevirtual 51, 3) := by decide +kernel
theorem dc_La_law_215 : decode bc_La_law 215 = .ok (.iload 5, 2) := by decide +kernel
theorem dc_La_law_217 : decode bc_La_law 217 = .ok (.if_icmp .eq (5), 3) := by decide +kernel
theorem dc_La_law_220 : decode bc_La_law 220 = .ok (.iconst 0, 1) := by decide +kernel
theorem dc_La_law_221 : decode bc_La_law 221 = .ok (.ireturn, 1) := by decide +kernel
theorem dc_La_law_222 : decode bc_La_law 222 = .ok (.iload 5, 2) := by decide +kernel
theorem dc_La_law_224 : decode bc_La_law 224 = .ok (.ifCond .ne (15), 3) := by decide +kernel
theorem dc_La_law_227 : decode bc_La_law 227 = .ok (.aload_n 3, 1) := by decide +kernel
theorem dc_La_law_228 : decode bc_La_law 228 = .ok (.iconst 0, 1) := by decide +kernel
theorem dc_La_law_229 : decode bc_La_law 229 = .ok (.laload, 1) := by decide +kernel
theorem dc_La_law_230 : decode bc_La_law 230 = .ok (.iload 6, 2) := by decide +kernel
theorem dc_La_law_232 : decode bc_La_law 232 = .ok (.i2l, 1) := by decide +kernel
theorem dc_La_law_233 : decode bc_La_law 233 = .ok (.lcmp, 1) := by decide +kernel
theorem dc_La_law_234 : decode bc_La_law 234 = .ok (.ifCond .eq (5), 3) := by decide +kernel
theorem dc_La_law_237 : decode bc_La_law 237 = .ok (.iconst 0, 1) := by decide +kernel
theorem dc_La_law_238 : decode bc_La_law 238 = .ok (.ireturn, 1) := by decide +kernel
theorem dc_La_law_239 : decode bc_La_law 239 = .ok (.goto (468), 3) := by decide +kernel
theorem dc_La_law_242 : decode bc_La_law 242 = .ok (.aload_n 1, 1) := by decide +kernel
theorem dc_La_law_243 : decode bc_La_law 243 = .ok (.aload_n 0, 1) := by decide +kernel
theorem dc_La_law_244 : decode bc_La_law 244 = .ok (.iload 4, 2) := by decide +kernel
theorem dc_La_law_246 : decode bc_La_law 246 = .ok (.iconst 1, 1) := by decide +kernel
theorem dc_La_law_247 : decode bc_La_law 247 = .ok (.iadd, 1) := by decide +kernel
theorem dc_La_law_248 : decode bc_La_law 248 = .ok (.iaload, 1) := by decide +kernel
theorem dc_La_law_249 : decode bc_La_law 249 = .ok (.ifCond .eq (7), 3) := by decide +kernel
theorem dc_La_law_252 : decode bc_La_law 252 = .ok (.iconst 1, 1) := by decide +kernel
theorem dc_La_law_253 : decode bc_La_law 253 = .ok (.goto (4), 3) := by decide +kernel
theorem dc_La_law_256 : decode bc_La_law 256 = .ok (.iconst 0, 1) := by decide +kernel
theorem dc_La_law_257 : decode bc_La_law 257 = .ok (.aload_n 3, 1) := by decide +kernel
theorem dc_La_law_258 : decode bc_La_law 258 = .ok (.invokestatic 54, 3) := by decide +kernel
theorem dc_La_law_261 : decode bc_La_law 261 = .ok (.istore 5, 2) := by decide +kernel
theorem dc_La_law_263 : decode bc_La_law 263 = .ok (.aload_n 2, 1) := by decide +kernel
theorem dc_La_law_264 : decode bc_La_law 264 = .ok (.aload_n 0, 1) := by decide +kernel
theorem dc_La_law_265 : decode bc_La_law 265 = .ok (.iload 4, 2) := by decide +kernel
theorem dc_La_law_267 : decode bc_La_law 267 = .ok (.iconst 1, 1) := by decide +kernel
theorem dc_La_law_268 : decode bc_La_law 268 = .ok (.iadd, 1) := by decide +kernel
theorem dc_La_law_269 : decode bc_La_law 269 = .ok (.iaload, 1) := by decide +kernel
theorem dc_La_law_270 : decode bc_La_law 270 = .ok (.ifCond .eq (7), 3) := by decide +kernel
theorem dc_La_law_273 : decode bc_La_law 273 = .ok (.iconst 1, 1) := by decide +kernel
theorem dc_La_law_274 : decode bc_La_law 274 = .ok (.goto (4), 3) := by decide +kernel
theorem dc_La_law_277 : decode bc_La_law 277 = .ok (.iconst 0, 1) := by decide +kernel
theorem dc_La_law_278 : decode bc_La_law 278 = .ok (.invokevirtual 57, 3) := by decide +kernel
theorem dc_La_law_281 : decode bc_La_law 281 = .ok (.istore 6, 2) := by decide +kernel
theorem dc_La_law_283 : decode bc_La_law 283 = .ok (.aload_n 2, 1) := by decide +kernel
theorem dc_La_law_284 : decode bc_La_law 284 = .ok (.invokevirtual 51, 3) := by decide +kernel
theorem dc_La_law_287 : decode bc_La_law 287 = .ok (.iload 5, 2) := by decide +kernel
theorem dc_La_law_289 : decode bc_La_law 289 = .ok (.if_icmp .eq (5), 3) := by decide +kernel
theorem dc_La_law_292 : decode bc_La_law 292 = .ok (.iconst 0, 1) := by decide +kernel
theorem dc_La_law_293 : decode bc_La_law 293 = .ok (.ireturn, 1) := by decide +kernel
theorem dc_La_law_294 : decode bc_La_law 294 = .ok (.iload 5, 2) := by decide +kernel
theorem dc_La_law_296 : decode bc_La_law 296 = .ok (.ifCond .ne (15), 3) := by decide +kernel
theorem dc_La_law_299 : decode bc_La_law 299 = .ok (.aload_n 3, 1) := by decide +kernel
theorem dc_La_law_300 : decode bc_La_law 300 = .ok (.iconst 0, 1) := by decide +kernel
theorem dc_La_law_301 : decode bc_La_law 301 = .ok (.laload, 1) := by decide +kernel
theorem dc_La_law_302 : decode bc_La_law 302 = .ok (.iload 6, 2) := by decide +kernel
theorem dc_La_law_304 : decode bc_La_law 304 = .ok (.i2l, 1) := by decide +kernel
theorem dc_La_law_305 : decode bc_La_law 305 = .ok (.lcmp, 1) := by decide +kernel
theorem dc_La_law_306 : decode bc_La_law 306 = .ok (.ifCond .eq (5), 3) := by decide +kernel
theorem dc_La_law_309 : decode bc_La_law 309 = .ok (.iconst 0, 1) := by decide +kernel
theorem dc_La_law_310 : decode bc_La_law 310 = .ok (.ireturn, 1) := by decide +kernel
theorem dc_La_law_311 : decode bc_La_law 311 = .ok (.goto (396), 3) := by decide +kernel
theorem dc_La_law_314 : decode bc_La_law 314 = .ok (.aload_n 1, 1) := by decide +kernel
theorem dc_La_law_315 : decode bc_La_law 315 = .ok (.aload_n 3, 1) := by decide +kernel
theorem dc_La_law_316 : decode bc_La_law 316 = .ok (.invokestatic 58, 3) := by decide +kernel
theorem dc_La_law_319 : decode bc_La_law 319 = .ok (.istore 5, 2) := by decide +kernel
theorem dc_La_law_321 : decode bc_La_law 321 = .ok (.aload_n 2, 1) := by decide +kernel
theorem dc_La_law_322 : decode bc_La_law 322 = .ok (.invokevirtual 60, 3) := by decide +kernel
theorem dc_La_law_325 : decode bc_La_law 325 = .ok (.istore 6, 2) := by decide +kernel
theorem dc_La_law_327 : decode bc_La_law 327 = .ok (.aload_n 2, 1) := by decide +kernel
theorem dc_La_law_328 : decode bc_La_law 328 = .ok (.invokevirtual 51, 3) := by decide +kernel
theorem dc_La_law_331 : decode bc_La_law 331 = .ok (.iload 5, 2) := by decide +kernel
theorem dc_La_law_333 : decode bc_La_law 333 = .ok (.if_icmp .eq (5), 3) := by decide +kernel
theorem dc_La_law_336 : decode bc_La_law 336 = .ok (.iconst 0, 1) := by decide +kernel
theorem dc_La_law_337 : decode bc_La_law 337 = .ok (.ireturn, 1) := by decide +kernel
theorem dc_La_law_338 : decode bc_La_law 338 = .ok (.iload 5, 2) := by decide +kernel
theorem dc_La_law_340 : decode bc_La_law 340 = .ok (.ifCond .ne (15), 3) := by decide +kernel
theorem dc_La_law_343 : decode bc_La_law 343 = .ok (.aload_n 3, 1) := by decide +kernel
theorem dc_La_law_344 : decode bc_La_law 344 = .ok (.iconst 0, 1) := by decide +kernel
theorem dc_La_law_345 : decode bc_La_law 345 = .ok (.laload, 1) := by decide +kernel
theorem dc_La_law_346 : decode bc_La_law 346 = .ok (.iload 6, 2) := by decide +kernel
theorem dc_La_law_348 : decode bc_La_law 348 = .ok (.i2l, 1) := by decide +kernel
theorem dc_La_law_349 : decode bc_La_law 349 = .ok (.lcmp, 1) := by decide +kernel
theorem dc_La_law_350 : decode bc_La_law 350 = .ok (.ifCond .eq (5), 3) := by decide +kernel
theorem dc_La_law_353 : decode bc_La_law 353 = .ok (.iconst 0, 1) := by decide +kernel
theorem dc_La_law_354 : decode bc_La_law 354 = .ok (.ireturn, 1) := by decide +kernel
theorem dc_La_law_355 : decode bc_La_law 355 = .ok (.goto (352), 3) := by decide +kernel
theorem dc_La_law_358 : decode bc_La_law 358 = .ok (.aload_n 1, 1) := by decide +kernel
theorem dc_La_law_359 : decode bc_La_law 359 = .ok (.invokevirtual 61, 3) := by decide +kernel
theorem dc_La_law_362 : decode bc_La_law 362 = .ok (.aload_n 2, 1) := by decide +kernel
theorem dc_La_law_363 : decode bc_La_law 363 = .ok (.invokevirtual 64, 3) := by decide +kernel
theorem dc_La_law_366 : decode bc_La_law 366 = .ok (.if_icmp .eq (341), 3) := by decide +kernel
theorem dc_La_law_369 : decode bc_La_law 369 = .ok (.iconst 0, 1) := by decide +kernel
theorem dc_La_law_370 : decode bc_La_law 370 = .ok (.ireturn, 1) := by decide +kernel
theorem dc_La_law_371 : decode bc_La_law 371 = .ok (.aload_n 1, 1) := by decide +kernel
theorem dc_La_law_372 : decode bc_La_law 372 = .ok (.aload_n 0, 1) := by decide +kernel
theorem dc_La_law_373 : decode bc_La_law 373 = .ok (.iload 4, 2) := by decide +kernel
theorem dc_La_law_375 : decode bc_La_law 375 = .ok (.iconst 1, 1) := by decide +kernel
theorem dc_La_law_376 : decode bc_La_law 376 = .ok (.iadd, 1) := by decide +kernel
theorem dc_La_law_377 : decode bc_La_law 377 = .ok (.iaload, 1) := by decide +kernel
theorem dc_La_law_378 : decode bc_La_law 378 = .ok (.invokevirtual 65, 3) := by decide +kernel
theorem dc_La_law_381 : decode bc_La_law 381 = .ok (.aload_n 2, 1) := by decide +kernel
theorem dc_La_law_382 : decode bc_La_law 382 = .ok (.aload_n 0, 1) := by decide +kernel
theorem dc_La_law_383 : decode bc_La_law 383 = .ok (.iload 4, 2) := by decide +kernel
theorem dc_La_law_385 : decode bc_La_law 385 = .ok (.iconst 1, 1) := by decide +kernel
theorem dc_La_law_386 : decode bc_La_law 386 = .ok (.iadd, 1) := by decide +kernel
theorem dc_La_law_387 : decode bc_La_law 387 = .ok (.iaload, 1) := by decide +kernel
theorem dc_La_law_388 : decode bc_La_law 388 = .ok (.invokevirtual 69, 3) := by decide +kernel
theorem dc_La_law_391 : decode bc_La_law 391 = .ok (.if_icmp .eq (316), 3) := by decide +kernel
theorem dc_La_law_394 : decode bc_La_law 394 = .ok (.iconst 0, 1) := by decide +kernel
theorem dc_La_law_395 : decode bc_La_law 395 = .ok (.ireturn, 1) := by decide +kernel
theorem dc_La_law_396 : decode bc_La_law 396 = .ok (.aload_n 1, 1) := by decide +kernel
theorem dc_La_law_397 : decode bc_La_law 397 = .ok (.aload_n 0, 1) := by decide +kernel
theorem dc_La_law_398 : decode bc_La_law 398 = .ok (.iload 4, 2) := by decide +kernel
theorem dc_La_law_400 : decode bc_La_law 400 = .ok (.iconst 1, 1) := by decide +kernel
theorem dc_La_law_401 : decode bc_La_law 401 = .ok (.iadd, 1) := by decide +kernel
theorem dc_La_law_402 : decode bc_La_law 402 = .ok (.iaload, 1) := by decide +kernel
theorem dc_La_law_403 : decode bc_La_law 403 = .ok (.aload_n 0, 1) := by decide +kernel
theorem dc_La_law_404 : decode bc_La_law 404 = .ok (.iload 4, 2) := by decide +kernel
theorem dc_La_law_406 : decode bc_La_law 406 = .ok (.iconst 2, 1) := by decide +kernel
theorem dc_La_law_407 : decode bc_La_law 407 = .ok (.iadd, 1) := by decide +kernel
theorem dc_La_law_408 : decode bc_La_law 408 = .ok (.iaload, 1) := by decide +kernel
theorem dc_La_law_409 : decode bc_La_law 409 = .ok (.invokevirtual 70, 3) := by decide +kernel
theorem dc_La_law_412 : decode bc_La_law 412 = .ok (.aload_n 2, 1) := by decide +kernel
theorem dc_La_law_413 : decode bc_La_law 413 = .ok (.aload_n 0, 1) := by decide +kernel
theorem dc_La_law_414 : decode bc_La_law 414 = .ok (.iload 4, 2) := by decide +kernel
theorem dc_La_law_416 : decode bc_La_law 416 = .ok (.iconst 1, 1) := by decide +kernel
theorem dc_La_law_417 : decode bc_La_law 417 = .ok (.iadd, 1) := by decide +kernel
theorem dc_La_law_418 : decode bc_La_law 418 = .ok (.iaload, 1) := by decide +kernel
theorem dc_La_law_419 : decode bc_La_law 419 = .ok (.aload_n 0, 1) := by decide +kernel
theorem dc_La_law_420 : decode bc_La_law 420 = .ok (.iload 4, 2) := by decide +kernel
theorem dc_La_law_422 : decode bc_La_law 422 = .ok (.iconst 2, 1) := by decide +kernel
theorem dc_La_law_423 : decode bc_La_law 423 = .ok (.iadd, 1) := by decide +kernel
theorem dc_La_law_424 : decode bc_La_law 424 = .ok (.iaload, 1) := by decide +kernel
theorem dc_La_law_425 : decode bc_La_law 425 = .ok (.invokevirtual 74, 3) := by decide +kernel
theorem dc_La_law_428 : decode bc_La_law 428 = .ok (.if_icmp .eq (279), 3) := by decide +kernel
theorem dc_La_law_431 : decode bc_La_law 431 = .ok (.iconst 0, 1) := by decide +kernel
theorem dc_La_law_432 : decode bc_La_law 432 = .ok (.ireturn, 1) := by decide +kernel
theorem dc_La_law_433 : decode bc_La_law 433 = .ok (.aload_n 1, 1) := by decide +kernel
theorem dc_La_law_434 : decode bc_La_law 434 = .ok (.aload_n 0, 1) := by decide +kernel
theorem dc_La_law_435 : decode bc_La_law 435 = .ok (.iload 4, 2) := by decide +kernel
theorem dc_La_law_437 : decode bc_La_law 437 = .ok (.iconst 1, 1) := by decide +kernel
theorem dc_La_law_438 : decode bc_La_law 438 = .ok (.iadd, 1) := by decide +kernel
theorem dc_La_law_439 : decode bc_La_law 439 = .ok (.iaload, 1) := by decide +kernel
theorem dc_La_law_440 : decode bc_La_law 440 = .ok (.invokevirtual 75, 3) := by decide +kernel
theorem dc_La_law_443 : decode bc_La_law 443 = .ok (.aload_n 2, 1) := by decide +kernel
theorem dc_La_law_444 : decode bc_La_law 444 = .ok (.aload_n 0, 1) := by decide +kernel
theorem dc_La_law_445 : decode bc_La_law 445 = .ok (.iload 4, 2) := by decide +kernel
theorem dc_La_law_447 : decode bc_La_law 447 = .ok (.iconst 1, 1) := by decide +kernel
theorem dc_La_law_448 : decode bc_La_law 448 = .ok (.iadd, 1) := by decide +kernel
theorem dc_La_law_449 : decode bc_La_law 449 = .ok (.iaload, 1) := by decide +kernel
theorem dc_La_law_450 : decode bc_La_law 450 = .ok (.invokevirtual 78, 3) := by decide +kernel
theorem dc_La_law_453 : decode bc_La_law 453 = .ok (.if_icmp .eq (254), 3) := by decide +kernel
theorem dc_La_law_456 : decode bc_La_law 456 = .ok (.iconst 0, 1) := by decide +kernel
theorem dc_La_law_457 : decode bc_La_law 457 = .ok (.ireturn, 1) := by decide +kernel
theorem dc_La_law_458 : decode bc_La_law 458 = .ok (.aload_n 1, 1) := by decide +kernel
theorem dc_La_law_459 : decode bc_La_law 459 = .ok (.aload_n 0, 1) := by decide +kernel
theorem dc_La_law_460 : decode bc_La_law 460 = .ok (.iload 4, 2) := by decide +kernel
theorem dc_La_law_462 : decode bc_La_law 462 = .ok (.iconst 1, 1) := by decide +kernel
theorem dc_La_law_463 : decode bc_La_law 463 = .ok (.iadd, 1) := by decide +kernel
theorem dc_La_law_464 : decode bc_La_law 464 = .ok (.iaload, 1) := by decide +kernel
theorem dc_La_law_465 : decode bc_La_law 465 = .ok (.invokevirtual 79, 3) := by decide +kernel
theorem dc_La_law_468 : decode bc_La_law 468 = .ok (.aload_n 2, 1) := by decide +kernel
theorem dc_La_law_469 : decode bc_La_law 469 = .ok (.aload_n 0, 1) := by decide +kernel
theorem dc_La_law_470 : decode bc_La_law 470 = .ok (.iload 4, 2) := by decide +kernel
theorem dc_La_law_472 : decode bc_La_law 472 = .ok (.iconst 1, 1) := by decide +kernel
theorem dc_La_law_473 : decode bc_La_law 473 = .ok (.iadd, 1) := by decide +kernel
theorem dc_La_law_474 : decode bc_La_law 474 = .ok (.iaload, 1) := by decide +kernel
theorem dc_La_law_475 : decode bc_La_law 475 = .ok (.invokevirtual 83, 3) := by decide +kernel
theorem dc_La_law_478 : decode bc_La_law 478 = .ok (.if_icmp .eq (229), 3) := by decide +kernel
theorem dc_La_law_481 : decode bc_La_law 481 = .ok (.iconst 0, 1) := by decide +kernel
theorem dc_La_law_482 : decode bc_La_law 482 = .ok (.ireturn, 1) := by decide +kernel
theorem dc_La_law_483 : decode bc_La_law 483 = .ok (.aload_n 1, 1) := by decide +kernel
theorem dc_La_law_484 : decode bc_La_law 484 = .ok (.aload_n 0, 1) := by decide +kernel
theorem dc_La_law_485 : decode bc_La_law 485 = .ok (.iload 4, 2) := by decide +kernel
theorem dc_La_law_487 : decode bc_La_law 487 = .ok (.iconst 1, 1) := by decide +kernel
theorem dc_La_law_488 : decode bc_La_law 488 = .ok (.iadd, 1) := by decide +kernel
theorem dc_La_law_489 : decode bc_La_law 489 = .ok (.iaload, 1) := by decide +kernel
theorem dc_La_law_490 : decode bc_La_law 490 = .ok (.invokevirtual 84, 3) := by decide +kernel
theorem dc_La_law_493 : decode bc_La_law 493 = .ok (.aload_n 2, 1) := by decide +kernel
theorem dc_La_law_494 : decode bc_La_law 494 = .ok (.aload_n 0, 1) := by decide +kernel
theorem dc_La_law_495 : decode bc_La_law 495 = .ok (.iload 4, 2) := by decide +kernel
theorem dc_La_law_497 : decode bc_La_law 497 = .ok (.iconst 1, 1) := by decide +kernel
theorem dc_La_law_498 : decode bc_La_law 498 = .ok (.iadd, 1) := by decide +kernel
theorem dc_La_law_499 : decode bc_La_law 499 = .ok (.iaload, 1) := by decide +kernel
theorem dc_La_law_500 : decode bc_La_law 500 = .ok (.invokevirtual 87, 3) := by decide +kernel
theorem dc_La_law_503 : decode bc_La_law 503 = .ok (.if_icmp .eq (204), 3) := by decide +kernel
theorem dc_La_law_506 : decode bc_La_law 506 = .ok (.iconst 0, 1) := by decide +kernel
theorem dc_La_law_507 : decode bc_La_law 507 = .ok (.ireturn, 1) := by decide +kernel
theorem dc_La_law_508 : decode bc_La_law 508 = .ok (.aload_n 1, 1) := by decide +kernel
theorem dc_La_law_509 : decode bc_La_law 509 = .ok (.aload_n 0, 1) := by decide +kernel
theorem dc_La_law_510 : decode bc_La_law 510 = .ok (.iload 4, 2) := by decide +kernel
theorem dc_La_law_512 : decode bc_La_law 512 = .ok (.iconst 1, 1) := by decide +kernel
theorem dc_La_law_513 : decode bc_La_law 513 = .ok (.iadd, 1) := by decide +kernel
theorem dc_La_law_514 : decode bc_La_law 514 = .ok (.iaload, 1) := by decide +kernel
theorem dc_La_law_515 : decode bc_La_law 515 = .ok (.aload_n 0, 1) := by decide +kernel
theorem dc_La_law_516 : decode bc_La_law 516 = .ok (.iload 4, 2) := by decide +kernel
theorem dc_La_law_518 : decode bc_La_law 518 = .ok (.iconst 2, 1) := by decide +kernel
theorem dc_La_law_519 : decode bc_La_law 519 = .ok (.iadd, 1) := by decide +kernel
theorem dc_La_law_520 : decode bc_La_law 520 = .ok (.iaload, 1) := by decide +kernel
theorem dc_La_law_521 : decode bc_La_law 521 = .ok (.invokevirtual 88, 3) := by decide +kernel
theorem dc_La_law_524 : decode bc_La_law 524 = .ok (.aload_n 2, 1) := by decide +kernel
theorem dc_La_law_525 : decode bc_La_law 525 = .ok (.aload_n 0, 1) := by decide +kernel
theorem dc_La_law_526 : decode bc_La_law 526 = .ok (.iload 4, 2) := by decide +kernel
theorem dc_La_law_528 : decode bc_La_law 528 = .ok (.iconst 1, 1) := by decide +kernel
theorem dc_La_law_529 : decode bc_La_law 529 = .ok (.iadd, 1) := by decide +kernel
theorem dc_La_law_530 : decode bc_La_law 530 = .ok (.iaload, 1) := by decide +kernel
theorem dc_La_law_531 : decode bc_La_law 531 = .ok (.aload_n 0, 1) := by decide +kernel
theorem dc_La_law_532 : decode bc_La_law 532 = .ok (.iload 4, 2) := by decide +kernel
theorem dc_La_law_534 : decode bc_La_law 534 = .ok (.iconst 2, 1) := by decide +kernel
theorem dc_La_law_535 : decode bc_La_law 535 = .ok (.iadd, 1) := by decide +kernel
theorem dc_La_law_536 : decode bc_La_law 536 = .ok (.iaload, 1) := by decide +kernel
theorem dc_La_law_537 : decode bc_La_law 537 = .ok (.invokevirtual 91, 3) := by decide +kernel
theorem dc_La_law_540 : decode bc_La_law 540 = .ok (.if_icmp .eq (167), 3) := by decide +kernel
theorem dc_La_law_543 : decode bc_La_law 543 = .ok (.iconst 0, 1) := by decide +kernel
theorem dc_La_law_544 : decode bc_La_law 544 = .ok (.ireturn, 1) := by decide +kernel
theorem dc_La_law_545 : decode bc_La_law 545 = .ok (.aload_n 1, 1) := by decide +kernel
theorem dc_La_law_546 : decode bc_La_law 546 = .ok (.aload_n 0, 1) := by decide +kernel
theorem dc_La_law_547 : decode bc_La_law 547 = .ok (.iload 4, 2) := by decide +kernel
theorem dc_La_law_549 : decode bc_La_law 549 = .ok (.iconst 1, 1) := by decide +kernel
theorem dc_La_law_550 : decode bc_La_law 550 = .ok (.iadd, 1) := by decide +kernel
theorem dc_La_law_551 : decode bc_La_law 551 = .ok (.iaload, 1) := by decide +kernel
theorem dc_La_law_552 : decode bc_La_law 552 = .ok (.aload_n 0, 1) := by decide +kernel
theorem dc_La_law_553 : decode bc_La_law 553 = .ok (.iload 4, 2) := by decide +kernel
theorem dc_La_law_555 : decode bc_La_law 555 = .ok (.iconst 2, 1) := by decide +kernel
theorem dc_La_law_556 : decode bc_La_law 556 = .ok (.iadd, 1) := by decide +kernel
theorem dc_La_law_557 : decode bc_La_law 557 = .ok (.iaload, 1) := by decide +kernel
theorem dc_La_law_558 : decode bc_La_law 558 = .ok (.aload_n 0, 1) := by decide +kernel
theorem dc_La_law_559 : decode bc_La_law 559 = .ok (.iload 4, 2) := by decide +kernel
theorem dc_La_law_561 : decode bc_La_law 561 = .ok (.iconst 3, 1) := by decide +kernel
theorem dc_La_law_562 : decode bc_La_law 562 = .ok (.iadd, 1) := by decide +kernel
theorem dc_La_law_563 : decode bc_La_law 563 = .ok (.iaload, 1) := by decide +kernel
theorem dc_La_law_564 : decode bc_La_law 564 = .ok (.invokevirtual 92, 3) := by decide +kernel
theorem dc_La_law_567 : decode bc_La_law 567 = .ok (.aload_n 2, 1) := by decide +kernel
theorem dc_La_law_568 : decode bc_La_law 568 = .ok (.aload_n 0, 1) := by decide +kernel
theorem dc_La_law_569 : decode bc_La_law 569 = .ok (.iload 4, 2) := by decide +kernel
theorem dc_La_law_571 : decode bc_La_law 571 = .ok (.iconst 1, 1) := by decide +kernel
theorem dc_La_law_572 : decode bc_La_law 572 = .ok (.iadd, 1) := by decide +kernel
theorem dc_La_law_573 : decode bc_La_law 573 = .ok (.iaload, 1) := by decide +kernel
theorem dc_La_law_574 : decode bc_La_law 574 = .ok (.aload_n 0, 1) := by decide +kernel
theorem dc_La_law_575 : decode bc_La_law 575 = .ok (.iload 4, 2) := by decide +kernel
theorem dc_La_law_577 : decode bc_La_law 577 = .ok (.iconst 2, 1) := by decide +kernel
theorem dc_La_law_578 : decode bc_La_law 578 = .ok (.iadd, 1) := by decide +kernel
theorem dc_La_law_579 : decode bc_La_law 579 = .ok (.iaload, 1) := by decide +kernel
theorem dc_La_law_580 : decode bc_La_law 580 = .ok (.aload_n 0, 1) := by decide +kernel
theorem dc_La_law_581 : decode bc_La_law 581 = .ok (.iload 4, 2) := by decide +kernel
theorem dc_La_law_583 : decode bc_La_law 583 = .ok (.iconst 3, 1) := by decide +kernel
theorem dc_La_law_584 : decode bc_La_law 584 = .ok (.iadd, 1) := by decide +kernel
theorem dc_La_law_585 : decode bc_La_law 585 = .ok (.iaload, 1) := by decide +kernel
theorem dc_La_law_586 : decode bc_La_law 586 = .ok (.invokevirtual 96, 3) := by decide +kernel
theorem dc_La_law_589 : decode bc_La_law 589 = .ok (.if_icmp .eq (118), 3) := by decide +kernel
theorem dc_La_law_592 : decode bc_La_law 592 = .ok (.iconst 0, 1) := by decide +kernel
theorem dc_La_law_593 : decode bc_La_law 593 = .ok (.ireturn, 1) := by decide +kernel
theorem dc_La_law_594 : decode bc_La_law 594 = .ok (.aload_n 1, 1) := by decide +kernel
theorem dc_La_law_595 : decode bc_La_law 595 = .ok (.aload_n 3, 1) := by decide +kernel
theorem dc_La_law_596 : decode bc_La_law 596 = .ok (.invokestatic 97, 3) := by decide +kernel
theorem dc_La_law_599 : decode bc_La_law 599 = .ok (.istore 5, 2) := by decide +kernel
theorem dc_La_law_601 : decode bc_La_law 601 = .ok (.aload_n 2, 1) := by decide +kernel
theorem dc_La_law_602 : decode bc_La_law 602 = .ok (.invokevirtual 99, 3) := by decide +kernel
theorem dc_La_law_605 : decode bc_La_law 605 = .ok (.istore 6, 2) := by decide +kernel
theorem dc_La_law_607 : decode bc_La_law 607 = .ok (.aload_n 2, 1) := by decide +kernel
theorem dc_La_law_608 : decode bc_La_law 608 = .ok (.invokevirtual 51, 3) := by decide +kernel
theorem dc_La_law_611 : decode bc_La_law 611 = .ok (.iload 5, 2) := by decide +kernel
theorem dc_La_law_613 : decode bc_La_law 613 = .ok (.if_icmp .eq (5), 3) := by decide +kernel
theorem dc_La_law_616 : decode bc_La_law 616 = .ok (.iconst 0, 1) := by decide +kernel
theorem dc_La_law_617 : decode bc_La_law 617 = .ok (.ireturn, 1) := by decide +kernel
theorem dc_La_law_618 : decode bc_La_law 618 = .ok (.iload 5, 2) := by decide +kernel
theorem dc_La_law_620 : decode bc_La_law 620 = .ok (.ifCond .ne (15), 3) := by decide +kernel
theorem dc_La_law_623 : decode bc_La_law 623 = .ok (.aload_n 3, 1) := by decide +kernel
theorem dc_La_law_624 : decode bc_La_law 624 = .ok (.iconst 0, 1) := by decide +kernel
theorem dc_La_law_625 : decode bc_La_law 625 = .ok (.laload, 1) := by decide +kernel
theorem dc_La_law_626 : decode bc_La_law 626 = .ok (.iload 6, 2) := by decide +kernel
theorem dc_La_law_628 : decode bc_La_law 628 = .ok (.i2l, 1) := by decide +kernel
theorem dc_La_law_629 : decode bc_La_law 629 = .ok (.lcmp, 1) := by decide +kernel
theorem dc_La_law_630 : decode bc_La_law 630 = .ok (.ifCond .eq (5), 3) := by decide +kernel
theorem dc_La_law_633 : decode bc_La_law 633 = .ok (.iconst 0, 1) := by decide +kernel
theorem dc_La_law_634 : decode bc_La_law 634 = .ok (.ireturn, 1) := by decide +kernel
theorem dc_La_law_635 : decode bc_La_law 635 = .ok (.goto (72), 3) := by decide +kernel
theorem dc_La_law_638 : decode bc_La_law 638 = .ok (.aload_n 1, 1) := by decide +kernel
theorem dc_La_law_639 : decode bc_La_law 639 = .ok (.aload_n 3, 1) := by decide +kernel
theorem dc_La_law_640 : decode bc_La_law 640 = .ok (.invokestatic 100, 3) := by decide +kernel
theorem dc_La_law_643 : decode bc_La_law 643 = .ok (.istore 5, 2) := by decide +kernel
theorem dc_La_law_645 : decode bc_La_law 645 = .ok (.aload_n 2, 1) := by decide +kernel
theorem dc_La_law_646 : decode bc_La_law 646 = .ok (.invokevirtual 102, 3) := by decide +kernel
theorem dc_La_law_649 : decode bc_La_law 649 = .ok (.istore 6, 2) := by decide +kernel
theorem dc_La_law_651 : decode bc_La_law 651 = .ok (.aload_n 2, 1) := by decide +kernel
theorem dc_La_law_652 : decode bc_La_law 652 = .ok (.invokevirtual 51, 3) := by decide +kernel
theorem dc_La_law_655 : decode bc_La_law 655 = .ok (.iload 5, 2) := by decide +kernel
theorem dc_La_law_657 : decode bc_La_law 657 = .ok (.if_icmp .eq (5), 3) := by decide +kernel
theorem dc_La_law_660 : decode bc_La_law 660 = .ok (.iconst 0, 1) := by decide +kernel
theorem dc_La_law_661 : decode bc_La_law 661 = .ok (.ireturn, 1) := by decide +kernel
theorem dc_La_law_662 : decode bc_La_law 662 = .ok (.iload 5, 2) := by decide +kernel
theorem dc_La_law_664 : decode bc_La_law 664 = .ok (.ifCond .ne (15), 3) := by decide +kernel
theorem dc_La_law_667 : decode bc_La_law 667 = .ok (.aload_n 3, 1) := by decide +kernel
theorem dc_La_law_668 : decode bc_La_law 668 = .ok (.iconst 0, 1) := by decide +kernel
theorem dc_La_law_669 : decode bc_La_law 669 = .ok (.laload, 1) := by decide +kernel
theorem dc_La_law_670 : decode bc_La_law 670 = .ok (.iload 6, 2) := by decide +kernel
theorem dc_La_law_672 : decode bc_La_law 672 = .ok (.i2l, 1) := by decide +kernel
theorem dc_La_law_673 : decode bc_La_law 673 = .ok (.lcmp, 1) := by decide +kernel
theorem dc_La_law_674 : decode bc_La_law 674 = .ok (.ifCond .eq (5), 3) := by decide +kernel
theorem dc_La_law_677 : decode bc_La_law 677 = .ok (.iconst 0, 1) := by decide +kernel
theorem dc_La_law_678 : decode bc_La_law 678 = .ok (.ireturn, 1) := by decide +kernel
theorem dc_La_law_679 : decode bc_La_law 679 = .ok (.goto (28), 3) := by decide +kernel
theorem dc_La_law_682 : decode bc_La_law 682 = .ok (.aload_n 1, 1) := by decide +kernel
theorem dc_La_law_683 : decode bc_La_law 683 = .ok (.aload_n 0, 1) := by decide +kernel
theorem dc_La_law_684 : decode bc_La_law 684 = .ok (.iload 4, 2) := by decide +kernel
theorem dc_La_law_686 : decode bc_La_law 686 = .ok (.iconst 1, 1) := by decide +kernel
theorem dc_La_law_687 : decode bc_La_law 687 = .ok (.iadd, 1) := by decide +kernel
theorem dc_La_law_688 : decode bc_La_law 688 = .ok (.iaload, 1) := by decide +kernel
theorem dc_La_law_689 : decode bc_La_law 689 = .ok (.invokevirtual 103, 3) := by decide +kernel
theorem dc_La_law_692 : decode bc_La_law 692 = .ok (.aload_n 2, 1) := by decide +kernel
theorem dc_La_law_693 : decode bc_La_law 693 = .ok (.aload_n 0, 1) := by decide +kernel
theorem dc_La_law_694 : decode bc_La_law 694 = .ok (.iload 4, 2) := by decide +kernel
theorem dc_La_law_696 : decode bc_La_law 696 = .ok (.iconst 1, 1) := by decide +kernel
theorem dc_La_law_697 : decode bc_La_law 697 = .ok (.iadd, 1) := by decide +kernel
theorem dc_La_law_698 : decode bc_La_law 698 = .ok (.iaload, 1) := by decide +kernel
theorem dc_La_law_699 : decode bc_La_law 699 = .ok (.invokevirtual 106, 3) := by decide +kernel
theorem dc_La_law_702 : decode bc_La_law 702 = .ok (.if_icmp .eq (5), 3) := by decide +kernel
theorem dc_La_law_705 : decode bc_La_law 705 = .ok (.iconst 0, 1) := by decide +kernel
theorem dc_La_law_706 : decode bc_La_law 706 = .ok (.ireturn, 1) := by decide +kernel
theorem dc_La_law_707 : decode bc_La_law 707 = .ok (.iinc 4 (4), 3) := by decide +kernel
theorem dc_La_law_710 : decode bc_La_law 710 = .ok (.goto (-687), 3) := by decide +kernel
theorem dc_La_law_713 : decode bc_La_law 713 = .ok (.iconst 1, 1) := by decide +kernel
theorem dc_La_law_714 : decode bc_La_law 714 = .ok (.ireturn, 1) := by decide +kernel
theorem dc_La_law_39 : decode bc_La_law 39 = .ok (.tableswitch 668 0 15 #[77, 146, 159, 203, 275, 319, 332, 357, 394, 419, 444, 469, 506, 555, 599, 643], 77) := by decide +kernel
/-- the road behind a call: whatever the two states are, where they go together it goes on -/
def lw_K (p : Program) (l : Launch) (e : Env) (s : State) (m : MethodId) (below : List Frame) (meth : Method) (c : Code) (D : va_G) (cI cZ cJ : ClassId) (A : Nat → Prop) (Q : State → Prop) (b i cells slots pc : Nat) (o xt ta xo oa xd xq qa qb qd da xc ca cb cd xs sa sb xr ra rb rd xa ia ib o2 x0 x1 x2 x3 x4 x5 x6 x7 x8 x9 x10 x11 x12 x13 x14 x15 x16 x17 xj : Nat) : Prop :=
  ∀ (hf : Bool) (hp : Bool) (fb : Nat) (tn : Nat) (t : Nat → Nat) (on : Nat) (ot : Nat → Nat) (qn : Nat) (gz : Nat → Nat) (gs : Nat → Nat) (gl : Nat → Int32) (dd : Nat → Bool) (cn : Nat) (fz : Nat → Nat) (fs : Nat → Nat) (fl : Nat → Int32) (sn : Nat) (op : Bool) (dl : Nat → Bool) (nu : Nat → Nat) (g : Nat) (ma : Nat) (ck : Bool) (ft : Nat → Nat) (fc : Nat → Nat) (fr : Nat → Int32) (an : Nat) (at1 : Nat) (af1 : Nat) (rs : Nat → Nat) (im : Nat → Nat) (mth : Nat) (mat : Nat) (mfr : Nat) (mto : Nat) (mgd : Bool) (mrd : Nat) (mcl : Bool) (mtr : Nat) (mrs : Nat) (mfo : Nat) (rz : Nat → Nat) (rl : Nat → Int32) (rdb : Nat → Bool) (lb : Nat → Bool) (kb : Nat → Bool) (ad : Nat → Bool) (hc : Nat → Nat) (hh : Nat → Int32) (r2 : Nat → Nat) (i2 : Nat → Nat) (us : Nat → Bool) (lt : Nat → Bool) (oj : Nat → Int64) (H : Heap) (locs : List Loc) (ls : Array Slot), pt_A hf hp ck fb tn on t → pt_B hp op mcl fb cn fz fs fl sn dl nu ad → pt_C ck op fb cn g ma ft fc fr kb hc hh → va_P D kc_l [pt_c o xt xo xd xc xs xr xa hf hp fb, tx_c xt ta tn, ar_n cI ta 250 t, tx_c xo oa on, ar_n cI oa 448 ot, dr_c xd xq da, cl_c xq qa qb qd qn, ar_n cI qa 17 gz, ar_n cI qb 17 gs, ar_i cI qd (17 * 8) gl, ar_b cZ da 17 dd, cl_c xc ca cb cd cn, ar_n cI ca 33 fz, ar_n cI cb 33 fs, ar_i cI cd (33 * 8) fl, sp_c xs sa sb sn op, ar_b cZ sa 17 dl, ar_n cI sb 17 nu, tr_c xr ra rb rd g ma ck, ar_n cI ra 33 ft, ar_n cI rb 33 fc, ar_i cI rd 2048 fr, as_c xa ia ib an at1 af1, ar_n cI ia 8 rs, ar_n cI ib 8 im, mo_c o2 mth tn x0 mat mfr mto mgd mrd x1 x2 x3 hf hp mcl ck fb cn x4 x5 x6 x7 x8 sn x9 x10 x11 x12 mtr mrs x13 x14 x15 x16 on x17 mfo, ar_n cI x0 250 t, ar_n cI x1 16 rz, ar_i cI x2 128 rl, ar_b cZ x3 16 rdb, ar_n cI x4 33 fs, ar_n cI x5 33 fz, ar_i cI x6 264 fl, ar_b cZ x7 33 lb, ar_b cZ x8 33 kb, ar_b cZ x9 17 ad, ar_n cI x10 17 nu, ar_n cI x11 33 hc, ar_i cI x12 6400 hh, ar_n cI x13 8 r2, ar_n cI x14 8 i2, ar_b cZ x15 8 us, ar_b cZ x16 33 lt, ar_n cI x17 600 ot, ar_l cJ xj 1 oj] H → va_D A [pt_c o xt xo xd xc xs xr xa hf hp fb, tx_c xt ta tn, ar_n cI ta 250 t, tx_c xo oa on, ar_n cI oa 448 ot, dr_c xd xq da, cl_c xq qa qb qd qn, ar_n cI qa 17 gz, ar_n cI qb 17 gs, ar_i cI qd (17 * 8) gl, ar_b cZ da 17 dd, cl_c xc ca cb cd cn, ar_n cI ca 33 fz, ar_n cI cb 33 fs, ar_i cI cd (33 * 8) fl, sp_c xs sa sb sn op, ar_b cZ sa 17 dl, ar_n cI sb 17 nu, tr_c xr ra rb rd g ma ck, ar_n cI ra 33 ft, ar_n cI rb 33 fc, ar_i cI rd 2048 fr, as_c xa ia ib an at1 af1, ar_n cI ia 8 rs, ar_n cI ib 8 im, mo_c o2 mth tn x0 mat mfr mto mgd mrd x1 x2 x3 hf hp mcl ck fb cn x4 x5 x6 x7 x8 sn x9 x10 x11 x12 mtr mrs x13 x14 x15 x16 on x17 mfo, ar_n cI x0 250 t, ar_n cI x1 16 rz, ar_i cI x2 128 rl, ar_b cZ x3 16 rdb, ar_n cI x4 33 fs, ar_n cI x5 33 fz, ar_i cI x6 264 fl, ar_b cZ x7 33 lb, ar_b cZ x8 33 kb, ar_b cZ x9 17 ad, ar_n cI x10 17 nu, ar_n cI x11 33 hc, ar_i cI x12 6400 hh, ar_n cI x13 8 r2, ar_n cI x14 8 i2, ar_b cZ x15 8 us, ar_b cZ x16 33 lt, ar_n cI x17 600 ot, ar_l cJ xj 1 oj] → va_S A s.heap H locs → lv_has ls 7 [(0, .ref b), (1, .ref o), (2, .ref o2), (3, .ref xj), (4, .int (nI i))] → W p l e room_1 s m #[Value.ref b] below meth c H locs cells slots Q (F0 m pc ls [])

