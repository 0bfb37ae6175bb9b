/-! packed bytes are read -/
theorem rem_2 : ∀ a, a < 256 → nI a - nI a / nI 2 * nI 2 = nI (a % 2) := by decide +kernel
theorem div_2 : ∀ a, a < 256 → nI a / nI 2 = nI (a / 2) := by decide +kernel
def pt_pck (t : Nat → Nat) (tn : Nat) : Nat → Nat → Nat → (Nat → Nat) → (Nat → Nat) → (Nat → Int32) → (Nat → Bool) → pt_Y
  | 0, c, i, fz, fs, fl, dd => (decide (i = tn), c, fz, fs, fl, dd)
  | k + 1, c, i, fz, fs, fl, dd =>
    if ¬ i < tn then (decide (i = tn), c, fz, fs, fl, dd)
    else if ¬ (t i = 97 ∨ t i = 100) then (false, c, fz, fs, fl, dd)
    else
      let Z := pt_rp t tn (c + 1) 9 (i + 1) (va_up fz (c + 1) 0) (va_up fs (c + 1) 0) fl
      if Z.1 = (-1000) then (false, c + 1, Z.2.1, Z.2.2.1, Z.2.2.2, va_up dd (c + 1) (decide (t i = 100)))
      else pt_pck t tn k (c + 1) (pt_num Z.1) Z.2.1 Z.2.2.1 Z.2.2.2 (va_up dd (c + 1) (decide (t i = 100)))
section PCK
variable {t : Nat → Nat} {tn c i : Nat} {fz fs : Nat → Nat} {fl : Nat → Int32} {dd : Nat → Bool}
theorem pck_en (h : ¬ i < tn) : pt_pck t tn (16 - c) c i fz fs fl dd = (decide (i = tn), c, fz, fs, fl, dd) := by
  cases 16 - c with
  | zero => rw [pt_pck]
  | succ k => rw [pt_pck, if_pos h]
theorem pck_full (hc : 16 ≤ c) (h : i < tn) : (pt_pck t tn (16 - c) c i fz fs fl dd).1 = false := by
  rw [show 16 - c = 0 by omega, pt_pck, decide_eq_false (by omega)]
theorem pck_kind (h : i < tn) (hk : ¬ (t i = 97 ∨ t i = 100)) : (pt_pck t tn (16 - c) c i fz fs fl dd).1 = false := by
  by_cases hc : c < 16
  · rw [show 16 - c = (16 - (c + 1)) + 1 by omega, pt_pck, if_neg (fun z => z h), if_pos hk]
  · exact pck_full (by omega) h
theorem pck_bad (h : i < tn) (hZ : c < 16 → (pt_rp t tn (c + 1) 9 (i + 1) (va_up fz (c + 1) 0) (va_up fs (c + 1) 0) fl).1 = (-1000)) : (pt_pck t tn (16 - c) c i fz fs fl dd).1 = false := by
  by_cases hc : c < 16
  · by_cases hk : t i = 97 ∨ t i = 100
    · rw [show 16 - c = (16 - (c + 1)) + 1 by omega, pt_pck, if_neg (fun z => z h), if_neg (fun z => z hk)]
      dsimp only
      rw [if_pos (hZ hc)]
    · exact pck_kind h hk
  · exact pck_full (by omega) h
theorem m_n1 : ∀ n, n ≤ 251 → ¬ nI n = (-1000) := by decide +kernel
theorem pck_go {d : Bool} {n : Nat} (hc : c < 16) (h : i < tn) (hk : t i = 97 ∨ t i = 100) (hd : decide (t i = 100) = d) {Z : pt_K} (hZ : pt_rp t tn (c + 1) 9 (i + 1) (va_up fz (c + 1) 0) (va_up fs (c + 1) 0) fl = Z) (h1 : Z.1 = nI n) (hn : n ≤ 251) : pt_pck t tn (16 - c) c i fz fs fl dd = pt_pck t tn (16 - (c + 1)) (c + 1) n Z.2.1 Z.2.2.1 Z.2.2.2 (va_up dd (c + 1) d) := by
  subst hZ
  subst hd
  rw [show 16 - c = (16 - (c + 1)) + 1 by omega, pt_pck, if_neg (fun z => z h), if_neg (fun z => z hk)]
  dsimp only
  rw [h1, if_neg (m_n1 n hn), num_nI (by omega)]
end PCK
section RP
variable {t : Nat → Nat} {tn c k i : Nat} {fz fs : Nat → Nat} {fl : Nat → Int32} {b : Nat}
theorem rp_en (hk : k ≤ 8) (h : tn ≤ i) : pt_rp t tn c (9 - k) i fz fs fl = (-1000, fz, fs, fl) := by
  rw [show 9 - k = (9 - (k + 1)) + 1 by omega, pt_rp, if_pos h]
theorem rp_0 (hk : k ≤ 8) (h : i < tn) (h0 : t i = 0) : pt_rp t tn c (9 - k) i fz fs fl = (nI (i + 1), fz, fs, fl) := by
  rw [show 9 - k = (9 - (k + 1)) + 1 by omega, pt_rp, if_neg (by omega), if_pos h0]
theorem rp_no (hk : k ≤ 8) (h : i < tn) (h0 : ¬ t i = 0) (hl : pt_lob (t i) = none) : pt_rp t tn c (9 - k) i fz fs fl = (-1000, fz, fs, fl) := by
  rw [show 9 - k = (9 - (k + 1)) + 1 by omega, pt_rp, if_neg (by omega), if_neg h0, hl]
theorem rp_dup (hk : k ≤ 8) (h : i < tn) (h0 : ¬ t i = 0) (hl : pt_lob (t i) = some b) (hc : ¬ fs c &&& (2 ^ (b % 8) ||| 2 ^ (b % 8 + 8)) = 0) : pt_rp t tn c (9 - k) i fz fs fl = (-1000, fz, fs, fl) := by
  rw [show 9 - k = (9 - (k + 1)) + 1 by omega, pt_rp, if_neg (by omega), if_neg h0, hl]
  dsimp only
  rw [if_pos hc]
theorem rp_go (hk : k ≤ 8) (h : i < tn) (h0 : ¬ t i = 0) (hl : pt_lob (t i) = some b) (hc : fs c &&& (2 ^ (b % 8) ||| 2 ^ (b % 8 + 8)) = 0) : pt_rp t tn c (9 - k) i fz fs fl = pt_rp t tn c (9 - (k + 1)) (i + 1) (va_up fz c (fz c + 1)) (va_up fs c (fs c ||| 2 ^ b)) (upd fl (c * 8 + fz c) (pt_lit b)) := by
  rw [show 9 - k = (9 - (k + 1)) + 1 by omega, pt_rp, if_neg (by omega), if_neg h0, hl]
  dsimp only
  rw [if_neg (fun q => q hc)]
end RP

theorem dc_Mo_readPacked_0 : decode bc_Mo_readPacked 0 = .ok (.aload_n 0, 1) := by decide +kernel
theorem dc_Mo_readPacked_1 : decode bc_Mo_readPacked 1 = .ok (.iconst 1, 1) := by decide +kernel
theorem dc_Mo_readPacked_2 : decode bc_Mo_readPacked 2 = .ok (.putfield 87, 3) := by decide +kernel
theorem dc_Mo_readPacked_5 : decode bc_Mo_readPacked 5 = .ok (.aload_n 0, 1) := by decide +kernel
theorem dc_Mo_readPacked_6 : decode bc_Mo_readPacked 6 = .ok (.iconst 0, 1) := by decide +kernel
theorem dc_Mo_readPacked_7 : decode bc_Mo_readPacked 7 = .ok (.putfield 91, 3) := by decide +kernel
theorem dc_Mo_readPacked_10 : decode bc_Mo_readPacked 10 = .ok (.iconst 0, 1) := by decide +kernel
theorem dc_Mo_readPacked_11 : decode bc_Mo_readPacked 11 = .ok (.istore_n 1, 1) := by decide +kernel
theorem dc_Mo_readPacked_12 : decode bc_Mo_readPacked 12 = .ok (.aload_n 0, 1) := by decide +kernel
theorem dc_Mo_readPacked_13 : decode bc_Mo_readPacked 13 = .ok (.getfield 87, 3) := by decide +kernel
theorem dc_Mo_readPacked_16 : decode bc_Mo_readPacked 16 = .ok (.ifCond .eq (172), 3) := by decide +kernel
theorem dc_Mo_readPacked_19 : decode bc_Mo_readPacked 19 = .ok (.iload_n 1, 1) := by decide +kernel
theorem dc_Mo_readPacked_20 : decode bc_Mo_readPacked 20 = .ok (.aload_n 0, 1) := by decide +kernel
theorem dc_Mo_readPacked_21 : decode bc_Mo_readPacked 21 = .ok (.getfield 69, 3) := by decide +kernel
theorem dc_Mo_readPacked_24 : decode bc_Mo_readPacked 24 = .ok (.if_icmp .ge (164), 3) := by decide +kernel
theorem dc_Mo_readPacked_27 : decode bc_Mo_readPacked 27 = .ok (.aload_n 0, 1) := by decide +kernel
theorem dc_Mo_readPacked_28 : decode bc_Mo_readPacked 28 = .ok (.aload_n 0, 1) := by decide +kernel
theorem dc_Mo_readPacked_29 : decode bc_Mo_readPacked 29 = .ok (.getfield 7, 3) := by decide +kernel
theorem dc_Mo_readPacked_32 : decode bc_Mo_readPacked 32 = .ok (.iload_n 1, 1) := by decide +kernel
theorem dc_Mo_readPacked_33 : decode bc_Mo_readPacked 33 = .ok (.iaload, 1) := by decide +kernel
theorem dc_Mo_readPacked_34 : decode bc_Mo_readPacked 34 = .ok (.bipush (97), 2) := by decide +kernel
theorem dc_Mo_readPacked_36 : decode bc_Mo_readPacked 36 = .ok (.if_icmp .eq (14), 3) := by decide +kernel
theorem dc_Mo_readPacked_39 : decode bc_Mo_readPacked 39 = .ok (.aload_n 0, 1) := by decide +kernel
theorem dc_Mo_readPacked_40 : decode bc_Mo_readPacked 40 = .ok (.getfield 7, 3) := by decide +kernel
theorem dc_Mo_readPacked_43 : decode bc_Mo_readPacked 43 = .ok (.iload_n 1, 1) := by decide +kernel
theorem dc_Mo_readPacked_44 : decode bc_Mo_readPacked 44 = .ok (.iaload, 1) := by decide +kernel
theorem dc_Mo_readPacked_45 : decode bc_Mo_readPacked 45 = .ok (.bipush (100), 2) := by decide +kernel
theorem dc_Mo_readPacked_47 : decode bc_Mo_readPacked 47 = .ok (.if_icmp .ne (7), 3) := by decide +kernel
theorem dc_Mo_readPacked_50 : decode bc_Mo_readPacked 50 = .ok (.iconst 1, 1) := by decide +kernel
theorem dc_Mo_readPacked_51 : decode bc_Mo_readPacked 51 = .ok (.goto (4), 3) := by decide +kernel
theorem dc_Mo_readPacked_54 : decode bc_Mo_readPacked 54 = .ok (.iconst 0, 1) := by decide +kernel
theorem dc_Mo_readPacked_55 : decode bc_Mo_readPacked 55 = .ok (.putfield 87, 3) := by decide +kernel
theorem dc_Mo_readPacked_58 : decode bc_Mo_readPacked 58 = .ok (.aload_n 0, 1) := by decide +kernel
theorem dc_Mo_readPacked_59 : decode bc_Mo_readPacked 59 = .ok (.aload_n 0, 1) := by decide +kernel
theorem dc_Mo_readPacked_60 : decode bc_Mo_readPacked 60 = .ok (.getfield 7, 3) := by decide +kernel
theorem dc_Mo_readPacked_63 : decode bc_Mo_readPacked 63 = .ok (.iload_n 1, 1) := by decide +kernel
theorem dc_Mo_readPacked_64 : decode bc_Mo_readPacked 64 = .ok (.iaload, 1) := by decide +kernel
theorem dc_Mo_readPacked_65 : decode bc_Mo_readPacked 65 = .ok (.bipush (100), 2) := by decide +kernel
theorem dc_Mo_readPacked_67 : decode bc_Mo_readPacked 67 = .ok (.if_icmp .ne (7), 3) := by decide +kernel
theorem dc_Mo_readPacked_70 : decode bc_Mo_readPacked 70 = .ok (.iconst 1, 1) := by decide +kernel
theorem dc_Mo_readPacked_71 : decode bc_Mo_readPacked 71 = .ok (.goto (4), 3) := by decide +kernel
theorem dc_Mo_readPacked_74 : decode bc_Mo_readPacked 74 = .ok (.iconst 0, 1) := by decide +kernel
theorem dc_Mo_readPacked_75 : decode bc_Mo_readPacked 75 = .ok (.invokevirtual 94, 3) := by decide +kernel
theorem dc_Mo_readPacked_78 : decode bc_Mo_readPacked 78 = .ok (.iinc 1 (1), 3) := by decide +kernel
theorem dc_Mo_readPacked_81 : decode bc_Mo_readPacked 81 = .ok (.aload_n 0, 1) := by decide +kernel
theorem dc_Mo_readPacked_82 : decode bc_Mo_readPacked 82 = .ok (.getfield 87, 3) := by decide +kernel
theorem dc_Mo_readPacked_85 : decode bc_Mo_readPacked 85 = .ok (.ifCond .eq (63), 3) := by decide +kernel
theorem dc_Mo_readPacked_88 : decode bc_Mo_readPacked 88 = .ok (.iload_n 1, 1) := by decide +kernel
theorem dc_Mo_readPacked_89 : decode bc_Mo_readPacked 89 = .ok (.aload_n 0, 1) := by decide +kernel
theorem dc_Mo_readPacked_90 : decode bc_Mo_readPacked 90 = .ok (.getfield 69, 3) := by decide +kernel
theorem dc_Mo_readPacked_93 : decode bc_Mo_readPacked 93 = .ok (.if_icmp .ge (55), 3) := by decide +kernel
theorem dc_Mo_readPacked_96 : decode bc_Mo_readPacked 96 = .ok (.aload_n 0, 1) := by decide +kernel
theorem dc_Mo_readPacked_97 : decode bc_Mo_readPacked 97 = .ok (.getfield 7, 3) := by decide +kernel
theorem dc_Mo_readPacked_100 : decode bc_Mo_readPacked 100 = .ok (.iload_n 1, 1) := by decide +kernel
theorem dc_Mo_readPacked_101 : decode bc_Mo_readPacked 101 = .ok (.iaload, 1) := by decide +kernel
theorem dc_Mo_readPacked_102 : decode bc_Mo_readPacked 102 = .ok (.ifCond .eq (46), 3) := by decide +kernel
theorem dc_Mo_readPacked_105 : decode bc_Mo_readPacked 105 = .ok (.aload_n 0, 1) := by decide +kernel
theorem dc_Mo_readPacked_106 : decode bc_Mo_readPacked 106 = .ok (.aload_n 0, 1) := by decide +kernel
theorem dc_Mo_readPacked_107 : decode bc_Mo_readPacked 107 = .ok (.getfield 7, 3) := by decide +kernel
theorem dc_Mo_readPacked_110 : decode bc_Mo_readPacked 110 = .ok (.iload_n 1, 1) := by decide +kernel
theorem dc_Mo_readPacked_111 : decode bc_Mo_readPacked 111 = .ok (.iaload, 1) := by decide +kernel
theorem dc_Mo_readPacked_112 : decode bc_Mo_readPacked 112 = .ok (.iconst 2, 1) := by decide +kernel
theorem dc_Mo_readPacked_113 : decode bc_Mo_readPacked 113 = .ok (.irem, 1) := by decide +kernel
theorem dc_Mo_readPacked_114 : decode bc_Mo_readPacked 114 = .ok (.ifCond .ne (14), 3) := by decide +kernel
theorem dc_Mo_readPacked_117 : decode bc_Mo_readPacked 117 = .ok (.aload_n 0, 1) := by decide +kernel
theorem dc_Mo_readPacked_118 : decode bc_Mo_readPacked 118 = .ok (.getfield 7, 3) := by decide +kernel
theorem dc_Mo_readPacked_121 : decode bc_Mo_readPacked 121 = .ok (.iload_n 1, 1) := by decide +kernel
theorem dc_Mo_readPacked_122 : decode bc_Mo_readPacked 122 = .ok (.iaload, 1) := by decide +kernel
theorem dc_Mo_readPacked_123 : decode bc_Mo_readPacked 123 = .ok (.iconst 2, 1) := by decide +kernel
theorem dc_Mo_readPacked_124 : decode bc_Mo_readPacked 124 = .ok (.idiv, 1) := by decide +kernel
theorem dc_Mo_readPacked_125 : decode bc_Mo_readPacked 125 = .ok (.goto (12), 3) := by decide +kernel
theorem dc_Mo_readPacked_128 : decode bc_Mo_readPacked 128 = .ok (.aload_n 0, 1) := by decide +kernel
theorem dc_Mo_readPacked_129 : decode bc_Mo_readPacked 129 = .ok (.getfield 7, 3) := by decide +kernel
theorem dc_Mo_readPacked_132 : decode bc_Mo_readPacked 132 = .ok (.iload_n 1, 1) := by decide +kernel
theorem dc_Mo_readPacked_133 : decode bc_Mo_readPacked 133 = .ok (.iaload, 1) := by decide +kernel
theorem dc_Mo_readPacked_134 : decode bc_Mo_readPacked 134 = .ok (.iconst 2, 1) := by decide +kernel
theorem dc_Mo_readPacked_135 : decode bc_Mo_readPacked 135 = .ok (.idiv, 1) := by decide +kernel
theorem dc_Mo_readPacked_136 : decode bc_Mo_readPacked 136 = .ok (.ineg, 1) := by decide +kernel
theorem dc_Mo_readPacked_137 : decode bc_Mo_readPacked 137 = .ok (.bipush (8), 2) := by decide +kernel
theorem dc_Mo_readPacked_139 : decode bc_Mo_readPacked 139 = .ok (.invokevirtual 102, 3) := by decide +kernel
theorem dc_Mo_readPacked_142 : decode bc_Mo_readPacked 142 = .ok (.iinc 1 (1), 3) := by decide +kernel
theorem dc_Mo_readPacked_145 : decode bc_Mo_readPacked 145 = .ok (.goto (-64), 3) := by decide +kernel
theorem dc_Mo_readPacked_148 : decode bc_Mo_readPacked 148 = .ok (.aload_n 0, 1) := by decide +kernel
theorem dc_Mo_readPacked_149 : decode bc_Mo_readPacked 149 = .ok (.aload_n 0, 1) := by decide +kernel
theorem dc_Mo_readPacked_150 : decode bc_Mo_readPacked 150 = .ok (.getfield 87, 3) := by decide +kernel
theorem dc_Mo_readPacked_153 : decode bc_Mo_readPacked 153 = .ok (.ifCond .eq (15), 3) := by decide +kernel
theorem dc_Mo_readPacked_156 : decode bc_Mo_readPacked 156 = .ok (.iload_n 1, 1) := by decide +kernel
theorem dc_Mo_readPacked_157 : decode bc_Mo_readPacked 157 = .ok (.aload_n 0, 1) := by decide +kernel
theorem dc_Mo_readPacked_158 : decode bc_Mo_readPacked 158 = .ok (.getfield 69, 3) := by decide +kernel
theorem dc_Mo_readPacked_161 : decode bc_Mo_readPacked 161 = .ok (.if_icmp .ge (7), 3) := by decide +kernel
theorem dc_Mo_readPacked_164 : decode bc_Mo_readPacked 164 = .ok (.iconst 1, 1) := by decide +kernel
theorem dc_Mo_readPacked_165 : decode bc_Mo_readPacked 165 = .ok (.goto (4), 3) := by decide +kernel
theorem dc_Mo_readPacked_168 : decode bc_Mo_readPacked 168 = .ok (.iconst 0, 1) := by decide +kernel
theorem dc_Mo_readPacked_169 : decode bc_Mo_readPacked 169 = .ok (.putfield 87, 3) := by decide +kernel
theorem dc_Mo_readPacked_172 : decode bc_Mo_readPacked 172 = .ok (.iinc 1 (1), 3) := by decide +kernel
theorem dc_Mo_readPacked_175 : decode bc_Mo_readPacked 175 = .ok (.aload_n 0, 1) := by decide +kernel
theorem dc_Mo_readPacked_176 : decode bc_Mo_readPacked 176 = .ok (.dup, 1) := by decide +kernel
theorem dc_Mo_readPacked_177 : decode bc_Mo_readPacked 177 = .ok (.getfield 91, 3) := by decide +kernel
theorem dc_Mo_readPacked_180 : decode bc_Mo_readPacked 180 = .ok (.iconst 1, 1) := by decide +kernel
theorem dc_Mo_readPacked_181 : decode bc_Mo_readPacked 181 = .ok (.iadd, 1) := by decide +kernel
theorem dc_Mo_readPacked_182 : decode bc_Mo_readPacked 182 = .ok (.putfield 91, 3) := by decide +kernel
theorem dc_Mo_readPacked_185 : decode bc_Mo_readPacked 185 = .ok (.goto (-173), 3) := by decide +kernel
theorem dc_Mo_readPacked_188 : decode bc_Mo_readPacked 188 = .ok (.aload_n 0, 1) := by decide +kernel
theorem dc_Mo_readPacked_189 : decode bc_Mo_readPacked 189 = .ok (.getfield 87, 3) := by decide +kernel
theorem dc_Mo_readPacked_192 : decode bc_Mo_readPacked 192 = .ok (.ireturn, 1) := by decide +kernel
section KT2
variable {p : Program} {l : Launch} {e : Env} {R : Room} {s : State} {m : MethodId} {args : Array Value} {below : List Frame} {meth : Method} {c : Code} {H : Heap} {locs : List Loc} {cells slots : Nat} {Q : State → Prop} {pc : Nat} {ls : Array Slot} {rest : List Value}
theorem kn_top2 {x y : Int32} {v : Value} (h : x = y) (k : W p l e R s m args below meth c H locs cells slots Q (F0 m pc ls (v :: .int y :: rest))) : W p l e R s m args below meth c H locs cells slots Q (F0 m pc ls (v :: .int x :: rest)) := by
  rw [h]; exact k
end KT2

set_option maxHeartbeats 4000000 in
set_option maxRecDepth 100000 in
theorem ct_Mo_readPacked (l : Launch) (D : va_G) (cI cZ : ClassId) (sz : Nat) (o : Nat) (mth : Nat) (mty : Nat) (x0 : Nat) (mat : Nat) (mfr : Nat) (mto : Nat) (mgd : Bool) (mrd : Nat) (x1 : Nat) (x2 : Nat) (x3 : Nat) (mhf : Bool) (mhp : Bool) (mcl : Bool) (mck : Bool) (mba : Nat) (mct : Nat) (x4 : Nat) (x5 : Nat) (x6 : Nat) (x7 : Nat) (x8 : Nat) (mst : Nat) (x9 : Nat) (x10 : Nat) (x11 : Nat) (x12 : Nat) (mtr : Nat) (mrs : Nat) (x13 : Nat) (x14 : Nat) (x15 : Nat) (x16 : Nat) (mwr : Nat) (x17 : Nat) (mfo : Nat) (t : Nat → Nat) (rz : Nat → Nat) (rl : Nat → Int32) (rd : Nat → Bool) (fz : Nat → Nat) (fs : Nat → Nat) (fl : Nat → Int32) (dd : Nat → Bool) (hty : mty ≤ 250) (ht : ∀ j, t j < 256) : Met l yn_Mo_readPacked (Cond.code yn_Mo_readPacked bc_Mo_readPacked 2 (some .boolean) :: kx_all) ({ frames := 1, cells := 0, slots := 0, locals := 25 } : Room) (kp [.ref o] D cI cZ [mo_c o mth mty x0 mat mfr mto mgd mrd x1 x2 x3 mhf mhp mcl mck mba mct x4 x5 x6 x7 x8 mst x9 x10 x11 x12 mtr mrs x13 x14 x15 x16 mwr x17 mfo, ar_n cI x0 250 t, ar_n cI x1 16 rz, ar_i cI x2 128 rl, ar_b cZ x3 16 rd] sz) (kw_e (some (.int (kb_i ((pt_pck t mty 16 0 0 fz fs fl dd).1)))) D kc_l (fun ex : { e : Bool × Nat × (Nat → Nat) × (Nat → Int32) × (Nat → Bool) // (pt_pck t mty 16 0 0 fz fs fl dd).1 = true → e.2.1 = (pt_pck t mty 16 0 0 fz fs fl dd).2.1 ∧ pt_rel (pt_pck t mty 16 0 0 fz fs fl dd).2.1 (pt_pck t mty 16 0 0 fz fs fl dd).2.2.1 (pt_pck t mty 16 0 0 fz fs fl dd).2.2.2.2.1 e.2.2.1 e.2.2.2.1 ∧ ∀ i, i < (pt_pck t mty 16 0 0 fz fs fl dd).2.1 → e.2.2.2.2 i = (pt_pck t mty 16 0 0 fz fs fl dd).2.2.2.2.2 (i + 1) } => [mo_c o mth mty x0 mat mfr mto ex.1.1 ex.1.2.1 x1 x2 x3 mhf mhp mcl mck mba mct x4 x5 x6 x7 x8 mst x9 x10 x11 x12 mtr mrs x13 x14 x15 x16 mwr x17 mfo, ar_n cI x0 250 t, ar_n cI x1 16 ex.1.2.2.1, ar_i cI x2 128 ex.1.2.2.2.1, ar_b cZ x3 16 ex.1.2.2.2.2]) (va_A [mo_c o mth mty x0 mat mfr mto mgd mrd x1 x2 x3 mhf mhp mcl mck mba mct x4 x5 x6 x7 x8 mst x9 x10 x11 x12 mtr mrs x13 x14 x15 x16 mwr x17 mfo, ar_n cI x0 250 t, ar_n cI x1 16 rz, ar_i cI x2 128 rl, ar_b cZ x3 16 rd] sz)) 0 0 (va_A [mo_c o mth mty x0 mat mfr mto mgd mrd x1 x2 x3 mhf mhp mcl mck mba mct x4 x5 x6 x7 x8 mst x9 x10 x11 x12 mtr mrs x13 x14 x15 x16 mwr x17 mfo, ar_n cI x0 250 t, ar_n cI x1 16 rz, ar_i cI x2 128 rl, ar_b cZ x3 16 rd] sz) := by
  refine kx_metE (by decide) (Nat.le_of_ble_eq_true rfl) ?_
  intro p e s m below meth c ls A hx hb hr hml hts hown hlocks hin hA hP hK hD hN hl hS
  have hown : s.vm.findClass rn_Mo = some m.cls := hown
  have hl : lv_has ls 2 [(0, .ref o)] := hl
  have jn_12 : ∀ (w9 : Int32) (c4 : Nat) (rz9 : Nat → Nat) (rl9 : Nat → Int32) (rd9 : Nat → Bool) (H : Heap) (locs : List Loc) (ls : Array Slot), va_P D kc_l [mo_c o mth mty x0 mat mfr mto false c4 x1 x2 x3 mhf mhp mcl mck mba mct x4 x5 x6 x7 x8 mst x9 x10 x11 x12 mtr mrs x13 x14 x15 x16 mwr x17 mfo, ar_n cI x0 250 t, ar_n cI x1 16 rz9, ar_i cI x2 128 rl9, ar_b cZ x3 16 rd9] H → va_D A [mo_c o mth mty x0 mat mfr mto false c4 x1 x2 x3 mhf mhp mcl mck mba mct x4 x5 x6 x7 x8 mst x9 x10 x11 x12 mtr mrs x13 x14 x15 x16 mwr x17 mfo, ar_n cI x0 250 t, ar_n cI x1 16 rz9, ar_i cI x2 128 rl9, ar_b cZ x3 16 rd9] → va_S A s.heap H locs → lv_has ls 2 [(1, .int w9), (0, .ref o)] → ((pt_pck t mty 16 0 0 fz fs fl dd).1 = false) → W p l e ({ frames := 1, cells := 0, slots := 0, locals := 25 } : Room) s m ([.ref o] : List Value).toArray below meth c H locs 0 0 (MQ below (kw_e (some (.int (kb_i ((pt_pck t mty 16 0 0 fz fs fl dd).1)))) D kc_l (fun ex : { e : Bool × Nat × (Nat → Nat) × (Nat → Int32) × (Nat → Bool) // (pt_pck t mty 16 0 0 fz fs fl dd).1 = true → e.2.1 = (pt_pck t mty 16 0 0 fz fs fl dd).2.1 ∧ pt_rel (pt_pck t mty 16 0 0 fz fs fl dd).2.1 (pt_pck t mty 16 0 0 fz fs fl dd).2.2.1 (pt_pck t mty 16 0 0 fz fs fl dd).2.2.2.2.1 e.2.2.1 e.2.2.2.1 ∧ ∀ i, i < (pt_pck t mty 16 0 0 fz fs fl dd).2.1 → e.2.2.2.2 i = (pt_pck t mty 16 0 0 fz fs fl dd).2.2.2.2.2 (i + 1) } => [mo_c o mth mty x0 mat mfr mto ex.1.1 ex.1.2.1 x1 x2 x3 mhf mhp mcl mck mba mct x4 x5 x6 x7 x8 mst x9 x10 x11 x12 mtr mrs x13 x14 x15 x16 mwr x17 mfo, ar_n cI x0 250 t, ar_n cI x1 16 ex.1.2.2.1, ar_i cI x2 128 ex.1.2.2.2.1, ar_b cZ x3 16 ex.1.2.2.2.2]) A) ([.ref o] : List Value).toArray s 0 0 A) (F0 m 12 ls []) := by
    intro w9 c4 rz9 rl9 rd9 H locs ls hP hD hS hl hFf
    refine lv_aload_n hx hb dc_Mo_readPacked_12 rfl (lv_at hl 1 rfl) ?_
    refine va_get (ci := 10) (v := .int (kb_i false)) (C := rn_Mo) (T := fd_Mo) (N := 36) hx hb hts in_Mo hown hK hP 0 rfl rfl 6 (by decide) (hts _ wd_752) (fun _ h9 => h9) rfl dc_Mo_readPacked_13 ?_
    refine kb_if_eq hx hb dc_Mo_readPacked_16 rfl (fun hc16 => ?_) (fun hc16 => ?_)
    · refine lv_aload_n hx hb dc_Mo_readPacked_188 rfl (lv_at hl 1 rfl) ?_
      refine va_get (ci := 10) (v := .int (kb_i false)) (C := rn_Mo) (T := fd_Mo) (N := 36) hx hb hts in_Mo hown hK hP 0 rfl rfl 6 (by decide) (hts _ wd_752) (fun _ h9 => h9) rfl dc_Mo_readPacked_189 ?_
      exact ke_zret (x := ⟨(false, c4, rz9, rl9, rd9), fun q9 => absurd q9 (by rw [hFf]; decide)⟩) hx hb hr hlocks hP hD hS dc_Mo_readPacked_192 (by rw [hFf]) (rfl)
    · exact absurd hc16 (by decide)
  have jn_148 : ∀ (w9 : Int32) (c4 : Nat) (rz9 : Nat → Nat) (rl9 : Nat → Int32) (rd9 : Nat → Bool) (H : Heap) (locs : List Loc) (ls : Array Slot), va_P D kc_l [mo_c o mth mty x0 mat mfr mto false c4 x1 x2 x3 mhf mhp mcl mck mba mct x4 x5 x6 x7 x8 mst x9 x10 x11 x12 mtr mrs x13 x14 x15 x16 mwr x17 mfo, ar_n cI x0 250 t, ar_n cI x1 16 rz9, ar_i cI x2 128 rl9, ar_b cZ x3 16 rd9] H → va_D A [mo_c o mth mty x0 mat mfr mto false c4 x1 x2 x3 mhf mhp mcl mck mba mct x4 x5 x6 x7 x8 mst x9 x10 x11 x12 mtr mrs x13 x14 x15 x16 mwr x17 mfo, ar_n cI x0 250 t, ar_n cI x1 16 rz9, ar_i cI x2 128 rl9, ar_b cZ x3 16 rd9] → va_S A s.heap H locs → lv_has ls 2 [(1, .int w9), (0, .ref o)] → ((pt_pck t mty 16 0 0 fz fs fl dd).1 = false) → W p l e ({ frames := 1, cells := 0, slots := 0, locals := 25 } : Room) s m ([.ref o] : List Value).toArray below meth c H locs 0 0 (MQ below (kw_e (some (.int (kb_i ((pt_pck t mty 16 0 0 fz fs fl dd).1)))) D kc_l (fun ex : { e : Bool × Nat × (Nat → Nat) × (Nat → Int32) × (Nat → Bool) // (pt_pck t mty 16 0 0 fz fs fl dd).1 = true → e.2.1 = (pt_pck t mty 16 0 0 fz fs fl dd).2.1 ∧ pt_rel (pt_pck t mty 16 0 0 fz fs fl dd).2.1 (pt_pck t mty 16 0 0 fz fs fl dd).2.2.1 (pt_pck t mty 16 0 0 fz fs fl dd).2.2.2.2.1 e.2.2.1 e.2.2.2.1 ∧ ∀ i, i < (pt_pck t mty 16 0 0 fz fs fl dd).2.1 → e.2.2.2.2 i = (pt_pck t mty 16 0 0 fz fs fl dd).2.2.2.2.2 (i + 1) } => [mo_c o mth mty x0 mat mfr mto ex.1.1 ex.1.2.1 x1 x2 x3 mhf mhp mcl mck mba mct x4 x5 x6 x7 x8 mst x9 x10 x11 x12 mtr mrs x13 x14 x15 x16 mwr x17 mfo, ar_n cI x0 250 t, ar_n cI x1 16 ex.1.2.2.1, ar_i cI x2 128 ex.1.2.2.2.1, ar_b cZ x3 16 ex.1.2.2.2.2]) A) ([.ref o] : List Value).toArray s 0 0 A) (F0 m 148 ls []) := by
    intro w9 c4 rz9 rl9 rd9 H locs ls hP hD hS hl hFf
    refine lv_aload_n hx hb dc_Mo_readPacked_148 rfl (lv_at hl 1 rfl) ?_
    refine lv_aload_n hx hb dc_Mo_readPacked_149 rfl (lv_at hl 1 rfl) ?_
    refine va_get (ci := 10) (v := .int (kb_i false)) (C := rn_Mo) (T := fd_Mo) (N := 36) hx hb hts in_Mo hown hK hP 0 rfl rfl 6 (by decide) (hts _ wd_752) (fun _ h9 => h9) rfl dc_Mo_readPacked_150 ?_
    refine kb_if_eq hx hb dc_Mo_readPacked_153 rfl (fun hc153 => ?_) (fun hc153 => ?_)
    · refine lv_iconst (v := nI 0) hx hb dc_Mo_readPacked_168 (by decide +kernel) ?_
      refine kn_top (y := kb_i false) (by decide +kernel) ?_
      refine va_put (ci := 10) (v := .int (kb_i false)) (ty := .boolean) (C := rn_Mo) (T := fd_Mo) (N := 36) hx hb hts in_Mo ty_Mo tk_Mo nm_Mo hown hK hP hD hS 0 rfl rfl 6 (by decide) (hts _ wd_752) (fun _ h9 => h9) rfl (by decide +kernel) (kb_nar _) (kb_fit _) (Nat.le_of_ble_eq_true rfl) dc_Mo_readPacked_169 (fun H locs hP hD hS => ?_)
      have hP : va_P D kc_l [mo_c o mth mty x0 mat mfr mto false c4 x1 x2 x3 mhf mhp mcl mck mba mct x4 x5 x6 x7 x8 mst x9 x10 x11 x12 mtr mrs x13 x14 x15 x16 mwr x17 mfo, ar_n cI x0 250 t, ar_n cI x1 16 rz9, ar_i cI x2 128 rl9, ar_b cZ x3 16 rd9] H := hP
      have hD : va_D A [mo_c o mth mty x0 mat mfr mto false c4 x1 x2 x3 mhf mhp mcl mck mba mct x4 x5 x6 x7 x8 mst x9 x10 x11 x12 mtr mrs x13 x14 x15 x16 mwr x17 mfo, ar_n cI x0 250 t, ar_n cI x1 16 rz9, ar_i cI x2 128 rl9, ar_b cZ x3 16 rd9] := hD
      refine lv_iinc (k := 0) (v := w9 + Int32.ofInt (1)) (lv' := [(1, .int (w9 + Int32.ofInt (1))), (0, .ref o)]) hx hb dc_Mo_readPacked_172 hl rfl rfl (by decide) rfl (fun ls hl => ?_)
      refine lv_aload_n hx hb dc_Mo_readPacked_175 rfl (lv_at hl 1 rfl) ?_
      refine lv_dup hx hb dc_Mo_readPacked_176 rfl ?_
      refine va_get (ci := 10) (v := .int (nI c4)) (C := rn_Mo) (T := fd_Mo) (N := 36) hx hb hts in_Mo hown hK hP 0 rfl rfl 7 (by decide) (hts _ wd_753) (fun _ h9 => h9) rfl dc_Mo_readPacked_177 ?_
      refine lv_iconst (v := nI 1) hx hb dc_Mo_readPacked_180 (by decide +kernel) ?_
      refine kn_iadd hx hb dc_Mo_readPacked_181 ?_
      refine va_put (ci := 10) (v := .int (nI (c4 + 1))) (ty := .int) (C := rn_Mo) (T := fd_Mo) (N := 36) hx hb hts in_Mo ty_Mo tk_Mo nm_Mo hown hK hP hD hS 0 rfl rfl 7 (by decide) (hts _ wd_753) (fun _ h9 => h9) rfl (by decide +kernel) rfl rfl (Nat.le_of_ble_eq_true rfl) dc_Mo_readPacked_182 (fun H locs hP hD hS => ?_)
      have hP : va_P D kc_l [mo_c o mth mty x0 mat mfr mto false (c4 + 1) x1 x2 x3 mhf mhp mcl mck mba mct x4 x5 x6 x7 x8 mst x9 x10 x11 x12 mtr mrs x13 x14 x15 x16 mwr x17 mfo, ar_n cI x0 250 t, ar_n cI x1 16 rz9, ar_i cI x2 128 rl9, ar_b cZ x3 16 rd9] H := hP
      have hD : va_D A [mo_c o mth mty x0 mat mfr mto false (c4 + 1) x1 x2 x3 mhf mhp mcl mck mba mct x4 x5 x6 x7 x8 mst x9 x10 x11 x12 mtr mrs x13 x14 x15 x16 mwr x17 mfo, ar_n cI x0 250 t, ar_n cI x1 16 rz9, ar_i cI x2 128 rl9, ar_b cZ x3 16 rd9] := hD
      refine lv_goto hx hb dc_Mo_readPacked_185 rfl ?_
      exact jn_12 _ _ _ _ _ _ _ _ hP hD hS hl hFf
    · exact absurd hc153 (by decide)
  have jn_81 : ∀ (w9 : Int32) (c4 : Nat) (rz9 : Nat → Nat) (rl9 : Nat → Int32) (rd9 : Nat → Bool) (H : Heap) (locs : List Loc) (ls : Array Slot), va_P D kc_l [mo_c o mth mty x0 mat mfr mto false c4 x1 x2 x3 mhf mhp mcl mck mba mct x4 x5 x6 x7 x8 mst x9 x10 x11 x12 mtr mrs x13 x14 x15 x16 mwr x17 mfo, ar_n cI x0 250 t, ar_n cI x1 16 rz9, ar_i cI x2 128 rl9, ar_b cZ x3 16 rd9] H → va_D A [mo_c o mth mty x0 mat mfr mto false c4 x1 x2 x3 mhf mhp mcl mck mba mct x4 x5 x6 x7 x8 mst x9 x10 x11 x12 mtr mrs x13 x14 x15 x16 mwr x17 mfo, ar_n cI x0 250 t, ar_n cI x1 16 rz9, ar_i cI x2 128 rl9, ar_b cZ x3 16 rd9] → va_S A s.heap H locs → lv_has ls 2 [(1, .int w9), (0, .ref o)] → ((pt_pck t mty 16 0 0 fz fs fl dd).1 = false) → W p l e ({ frames := 1, cells := 0, slots := 0, locals := 25 } : Room) s m ([.ref o] : List Value).toArray below meth c H locs 0 0 (MQ below (kw_e (some (.int (kb_i ((pt_pck t mty 16 0 0 fz fs fl dd).1)))) D kc_l (fun ex : { e : Bool × Nat × (Nat → Nat) × (Nat → Int32) × (Nat → Bool) // (pt_pck t mty 16 0 0 fz fs fl dd).1 = true → e.2.1 = (pt_pck t mty 16 0 0 fz fs fl dd).2.1 ∧ pt_rel (pt_pck t mty 16 0 0 fz fs fl dd).2.1 (pt_pck t mty 16 0 0 fz fs fl dd).2.2.1 (pt_pck t mty 16 0 0 fz fs fl dd).2.2.2.2.1 e.2.2.1 e.2.2.2.1 ∧ ∀ i, i < (pt_pck t mty 16 0 0 fz fs fl dd).2.1 → e.2.2.2.2 i = (pt_pck t mty 16 0 0 fz fs fl dd).2.2.2.2.2 (i + 1) } => [mo_c o mth mty x0 mat mfr mto ex.1.1 ex.1.2.1 x1 x2 x3 mhf mhp mcl mck mba mct x4 x5 x6 x7 x8 mst x9 x10 x11 x12 mtr mrs x13 x14 x15 x16 mwr x17 mfo, ar_n cI x0 250 t, ar_n cI x1 16 ex.1.2.2.1, ar_i cI x2 128 ex.1.2.2.2.1, ar_b cZ x3 16 ex.1.2.2.2.2]) A) ([.ref o] : List Value).toArray s 0 0 A) (F0 m 81 ls []) := by
    intro w9 c4 rz9 rl9 rd9 H locs ls hP hD hS hl hFf
    refine lv_aload_n hx hb dc_Mo_readPacked_81 rfl (lv_at hl 1 rfl) ?_
    refine va_get (ci := 10) (v := .int (kb_i false)) (C := rn_Mo) (T := fd_Mo) (N := 36) hx hb hts in_Mo hown hK hP 0 rfl rfl 6 (by decide) (hts _ wd_752) (fun _ h9 => h9) rfl dc_Mo_readPacked_82 ?_
    refine kb_if_eq hx hb dc_Mo_readPacked_85 rfl (fun hc85 => ?_) (fun hc85 => ?_)
    · exact jn_148 _ _ _ _ _ _ _ _ hP hD hS hl hFf
    · exact absurd hc85 (by decide)
  refine lv_aload_n hx hb dc_Mo_readPacked_0 rfl (lv_at hl 0 rfl) ?_
  refine lv_iconst (v := nI 1) hx hb dc_Mo_readPacked_1 (by decide +kernel) ?_
  refine kn_top (y := kb_i true) (by decide +kernel) ?_
  refine va_put (ci := 10) (v := .int (kb_i true)) (ty := .boolean) (C := rn_Mo) (T := fd_Mo) (N := 36) hx hb hts in_Mo ty_Mo tk_Mo nm_Mo hown hK hP hD hS 0 rfl rfl 6 (by decide) (hts _ wd_752) (fun _ h9 => h9) rfl (by decide +kernel) (kb_nar _) (kb_fit _) (Nat.le_of_ble_eq_true rfl) dc_Mo_readPacked_2 (fun H locs hP hD hS => ?_)
  have hP : va_P D kc_l [mo_c o mth mty x0 mat mfr mto true mrd x1 x2 x3 mhf mhp mcl mck mba mct x4 x5 x6 x7 x8 mst x9 x10 x11 x12 mtr mrs x13 x14 x15 x16 mwr x17 mfo, ar_n cI x0 250 t, ar_n cI x1 16 rz, ar_i cI x2 128 rl, ar_b cZ x3 16 rd] H := hP
  have hD : va_D A [mo_c o mth mty x0 mat mfr mto true mrd x1 x2 x3 mhf mhp mcl mck mba mct x4 x5 x6 x7 x8 mst x9 x10 x11 x12 mtr mrs x13 x14 x15 x16 mwr x17 mfo, ar_n cI x0 250 t, ar_n cI x1 16 rz, ar_i cI x2 128 rl, ar_b cZ x3 16 rd] := hD
  refine lv_aload_n hx hb dc_Mo_readPacked_5 rfl (lv_at hl 0 rfl) ?_
  refine lv_iconst (v := nI 0) hx hb dc_Mo_readPacked_6 (by decide +kernel) ?_
  refine va_put (ci := 10) (v := .int (nI 0)) (ty := .int) (C := rn_Mo) (T := fd_Mo) (N := 36) hx hb hts in_Mo ty_Mo tk_Mo nm_Mo hown hK hP hD hS 0 rfl rfl 7 (by decide) (hts _ wd_753) (fun _ h9 => h9) rfl (by decide +kernel) rfl rfl (Nat.le_of_ble_eq_true rfl) dc_Mo_readPacked_7 (fun H locs hP hD hS => ?_)
  have hP : va_P D kc_l [mo_c o mth mty x0 mat mfr mto true 0 x1 x2 x3 mhf mhp mcl mck mba mct x4 x5 x6 x7 x8 mst x9 x10 x11 x12 mtr mrs x13 x14 x15 x16 mwr x17 mfo, ar_n cI x0 250 t, ar_n cI x1 16 rz, ar_i cI x2 128 rl, ar_b cZ x3 16 rd] H := hP
  have hD : va_D A [mo_c o mth mty x0 mat mfr mto true 0 x1 x2 x3 mhf mhp mcl mck mba mct x4 x5 x6 x7 x8 mst x9 x10 x11 x12 mtr mrs x13 x14 x15 x16 mwr x17 mfo, ar_n cI x0 250 t, ar_n cI x1 16 rz, ar_i cI x2 128 rl, ar_b cZ x3 16 rd] := hD
  refine lv_iconst (v := nI 0) hx hb dc_Mo_readPacked_10 (by decide +kernel) ?_
  refine lv_istore_n (lv' := [(1, .int (nI 0)), (0, .ref o)]) hx hb dc_Mo_readPacked_11 rfl hl (by decide) rfl (fun ls hl => ?_)
  have lp_12 : ∀ (K : Nat) (k : Nat) (i : Nat) (fz1 : Nat → Nat) (fs1 : Nat → Nat) (fl1 : Nat → Int32) (dd1 : Nat → Bool) (rz1 : Nat → Nat) (rl1 : Nat → Int32) (rd1 : Nat → Bool) (H : Heap) (locs : List Loc) (ls : Array Slot), 16 - k < K → va_P D kc_l [mo_c o mth mty x0 mat mfr mto true k x1 x2 x3 mhf mhp mcl mck mba mct x4 x5 x6 x7 x8 mst x9 x10 x11 x12 mtr mrs x13 x14 x15 x16 mwr x17 mfo, ar_n cI x0 250 t, ar_n cI x1 16 rz1, ar_i cI x2 128 rl1, ar_b cZ x3 16 rd1] H → va_D A [mo_c o mth mty x0 mat mfr mto true k x1 x2 x3 mhf mhp mcl mck mba mct x4 x5 x6 x7 x8 mst x9 x10 x11 x12 mtr mrs x13 x14 x15 x16 mwr x17 mfo, ar_n cI x0 250 t, ar_n cI x1 16 rz1, ar_i cI x2 128 rl1, ar_b cZ x3 16 rd1] → va_S A s.heap H locs → lv_has ls 2 [(1, .int (nI i)), (0, .ref o)] → (pt_pck t mty (16 - k) k i fz1 fs1 fl1 dd1 = pt_pck t mty 16 0 0 fz fs fl dd) → (k ≤ 16) → (i ≤ mty) → (pt_rel k fz1 fl1 rz1 rl1) → (∀ j, j < k → rd1 j = dd1 (j + 1)) → W p l e ({ frames := 1, cells := 0, slots := 0, locals := 25 } : Room) s m ([.ref o] : List Value).toArray below meth c H locs 0 0 (MQ below (kw_e (some (.int (kb_i ((pt_pck t mty 16 0 0 fz fs fl dd).1)))) D kc_l (fun ex : { e : Bool × Nat × (Nat → Nat) × (Nat → Int32) × (Nat → Bool) // (pt_pck t mty 16 0 0 fz fs fl dd).1 = true → e.2.1 = (pt_pck t mty 16 0 0 fz fs fl dd).2.1 ∧ pt_rel (pt_pck t mty 16 0 0 fz fs fl dd).2.1 (pt_pck t mty 16 0 0 fz fs fl dd).2.2.1 (pt_pck t mty 16 0 0 fz fs fl dd).2.2.2.2.1 e.2.2.1 e.2.2.2.1 ∧ ∀ i, i < (pt_pck t mty 16 0 0 fz fs fl dd).2.1 → e.2.2.2.2 i = (pt_pck t mty 16 0 0 fz fs fl dd).2.2.2.2.2 (i + 1) } => [mo_c o mth mty x0 mat mfr mto ex.1.1 ex.1.2.1 x1 x2 x3 mhf mhp mcl mck mba mct x4 x5 x6 x7 x8 mst x9 x10 x11 x12 mtr mrs x13 x14 x15 x16 mwr x17 mfo, ar_n cI x0 250 t, ar_n cI x1 16 ex.1.2.2.1, ar_i cI x2 128 ex.1.2.2.2.1, ar_b cZ x3 16 ex.1.2.2.2.2]) A) ([.ref o] : List Value).toArray s 0 0 A) (F0 m 12 ls []) := by
    intro K
    induction K with
    | zero =>
      intro k i fz1 fs1 fl1 dd1 rz1 rl1 rd1 H locs ls hk
      exact absurd hk (Nat.not_lt_zero _)
    | succ K ih_12 =>
      intro k i fz1 fs1 fl1 dd1 rz1 rl1 rd1 H locs ls hk hP hD hS hl h1 h2 h4 hr1 hrd1
      refine lv_aload_n hx hb dc_Mo_readPacked_12 rfl (lv_at hl 1 rfl) ?_
      refine va_get (ci := 10) (v := .int (kb_i true)) (C := rn_Mo) (T := fd_Mo) (N := 36) hx hb hts in_Mo hown hK hP 0 rfl rfl 6 (by decide) (hts _ wd_752) (fun _ h9 => h9) rfl dc_Mo_readPacked_13 ?_
      refine kb_if_eq hx hb dc_Mo_readPacked_16 rfl (fun hc16 => ?_) (fun hc16 => ?_)
      · exact absurd hc16 (by decide)
      · refine lv_iload_n hx hb dc_Mo_readPacked_19 rfl (lv_at hl 0 rfl) ?_
        refine lv_aload_n hx hb dc_Mo_readPacked_20 rfl (lv_at hl 1 rfl) ?_
        refine va_get (ci := 10) (v := .int (nI mty)) (C := rn_Mo) (T := fd_Mo) (N := 36) hx hb hts in_Mo hown hK hP 0 rfl rfl 1 (by decide) (hts _ wd_747) (fun _ h9 => h9) rfl dc_Mo_readPacked_21 ?_
        refine kn_icmp_ge hx hb (by omega) (by omega) dc_Mo_readPacked_24 rfl (fun hc24 => ?_) (fun hc24 => ?_)
        · have hFt : pt_pck t mty 16 0 0 fz fs fl dd = (true, k, fz1, fs1, fl1, dd1) := by rw [← h1, pck_en (by omega), decide_eq_true (show i = mty by omega)]
          refine lv_aload_n hx hb dc_Mo_readPacked_188 rfl (lv_at hl 1 rfl) ?_
          refine va_get (ci := 10) (v := .int (kb_i true)) (C := rn_Mo) (T := fd_Mo) (N := 36) hx hb hts in_Mo hown hK hP 0 rfl rfl 6 (by decide) (hts _ wd_752) (fun _ h9 => h9) rfl dc_Mo_readPacked_189 ?_
          exact ke_zret (x := ⟨(true, k, rz1, rl1, rd1), fun _ => by rw [hFt]; exact ⟨rfl, hr1, hrd1⟩⟩) hx hb hr hlocks hP hD hS dc_Mo_readPacked_192 (by rw [hFt]) (rfl)
        · refine lv_aload_n hx hb dc_Mo_readPacked_27 rfl (lv_at hl 1 rfl) ?_
          refine lv_aload_n hx hb dc_Mo_readPacked_28 rfl (lv_at hl 1 rfl) ?_
          refine va_get (ci := 10) (v := .ref x0) (C := rn_Mo) (T := fd_Mo) (N := 36) hx hb hts in_Mo hown hK hP 0 rfl rfl 2 (by decide) (hts _ wd_748) (fun _ h9 => h9) rfl dc_Mo_readPacked_29 ?_
          refine lv_iload_n hx hb dc_Mo_readPacked_32 rfl (lv_at hl 0 rfl) ?_
          refine ka_nald (t := t) hx hb hK hP 1 0 rfl rfl (j := i) (by omega) (by omega) dc_Mo_readPacked_33 ?_
          refine lv_bipush (v := nI 97) hx hb dc_Mo_readPacked_34 (by decide +kernel) ?_
          refine kn_icmp_eq hx hb (Nat.lt_trans (ht i) (by decide)) (by omega) dc_Mo_readPacked_36 rfl (fun hc36 => ?_) (fun hc36 => ?_)
          · refine lv_iconst (v := nI 1) hx hb dc_Mo_readPacked_50 (by decide +kernel) ?_
            refine lv_goto hx hb dc_Mo_readPacked_51 rfl ?_
            refine kn_top (y := kb_i true) (by decide +kernel) ?_
            refine va_put (ci := 10) (v := .int (kb_i true)) (ty := .boolean) (C := rn_Mo) (T := fd_Mo) (N := 36) hx hb hts in_Mo ty_Mo tk_Mo nm_Mo hown hK hP hD hS 0 rfl rfl 6 (by decide) (hts _ wd_752) (fun _ h9 => h9) rfl (by decide +kernel) (kb_nar _) (kb_fit _) (Nat.le_of_ble_eq_true rfl) dc_Mo_readPacked_55 (fun H locs hP hD hS => ?_)
            have hP : va_P D kc_l [mo_c o mth mty x0 mat mfr mto true k x1 x2 x3 mhf mhp mcl mck mba mct x4 x5 x6 x7 x8 mst x9 x10 x11 x12 mtr mrs x13 x14 x15 x16 mwr x17 mfo, ar_n cI x0 250 t, ar_n cI x1 16 rz1, ar_i cI x2 128 rl1, ar_b cZ x3 16 rd1] H := hP
            have hD : va_D A [mo_c o mth mty x0 mat mfr mto true k x1 x2 x3 mhf mhp mcl mck mba mct x4 x5 x6 x7 x8 mst x9 x10 x11 x12 mtr mrs x13 x14 x15 x16 mwr x17 mfo, ar_n cI x0 250 t, ar_n cI x1 16 rz1, ar_i cI x2 128 rl1, ar_b cZ x3 16 rd1] := hD
            have hkd : t i = 97 ∨ t i = 100 := Or.inl hc36
            have hdd : decide (t i = 100) = false := (decide_eq_false (by omega))
            by_cases hk16 : k < 16
            · refine lv_aload_n hx hb dc_Mo_readPacked_58 rfl (lv_at hl 1 rfl) ?_
              refine lv_aload_n hx hb dc_Mo_readPacked_59 rfl (lv_at hl 1 rfl) ?_
              refine va_get (ci := 10) (v := .ref x0) (C := rn_Mo) (T := fd_Mo) (N := 36) hx hb hts in_Mo hown hK hP 0 rfl rfl 2 (by decide) (hts _ wd_748) (fun _ h9 => h9) rfl dc_Mo_readPacked_60 ?_
              refine lv_iload_n hx hb dc_Mo_readPacked_63 rfl (lv_at hl 0 rfl) ?_
              refine ka_nald (t := t) hx hb hK hP 1 0 rfl rfl (j := i) (by omega) (by omega) dc_Mo_readPacked_64 ?_
              refine lv_bipush (v := nI 100) hx hb dc_Mo_readPacked_65 (by decide +kernel) ?_
              refine kn_icmp_ne hx hb (Nat.lt_trans (ht i) (by decide)) (by omega) dc_Mo_readPacked_67 rfl (fun hc67 => ?_) (fun hc67 => ?_)
              · refine lv_iconst (v := nI 0) hx hb dc_Mo_readPacked_74 (by decide +kernel) ?_
                refine kn_top (y := kb_i false) (by decide +kernel) ?_
                refine kw_call0 (wr := [ar_n cI x0 250 t, ar_i cI x2 128 rl1]) (ws' := [mo_c o mth mty x0 mat mfr mto true k x1 x2 x3 mhf mhp mcl mck mba mct x4 x5 x6 x7 x8 mst x9 x10 x11 x12 mtr mrs x13 x14 x15 x16 mwr x17 mfo, ar_n cI x0 250 t, ar_n cI x1 16 (va_up rz1 k 0), ar_i cI x2 128 rl1, ar_b cZ x3 16 (va_up rd1 k false)]) (va_runV (As := [.int (kb_i false)]) (rest := []) ⟨hx, hb, hml, hown, hts⟩ (ct_Mo_beginClause l D cI cZ _ o mth mty x0 mat mfr mto true k x1 x2 x3 mhf mhp mcl mck mba mct x4 x5 x6 x7 x8 mst x9 x10 x11 x12 mtr mrs x13 x14 x15 x16 mwr x17 mfo rz1 rd1 false (rfl) (hk16)) (cwV 1 hts (kx_gV wd_895 wd_897 (kx_sel (q := (yn_Mo_beginClause, 36)) (List.mem_append_right _ (List.mem_append_left _ (List.mem_of_getElem? (i := 1) rfl)))) wd_9 wd_898) rfl rfl rfl ⟨rfl, yd_Mo_beginClause⟩ ⟨Nat.le_of_ble_eq_true rfl, Nat.le_of_ble_eq_true rfl⟩) (kp_V (q0 := 0) (ci := 10) hP hD hK hN [0, 2, 4] rfl rfl rfl rfl rfl) rfl rfl hl.1 rfl (lv_room (Nat.le_of_ble_eq_true rfl)) dc_Mo_readPacked_75 ⟨Nat.le_of_ble_eq_true rfl, Nat.le_of_ble_eq_true rfl⟩) hP hD hS hA [0, 2, 4] [1, 3] [2, 0, 3, 1, 4] rfl rfl rfl (by decide) rfl rfl (fun H locs hP hD hS => ?_)
                refine lv_iinc (k := 0) (v := nI (i + 1)) (lv' := [(1, .int (nI (i + 1))), (0, .ref o)]) hx hb dc_Mo_readPacked_78 hl rfl (nI_1 _) (by decide) rfl (fun ls hl => ?_)
                have lp_81 : ∀ (K : Nat) (j : Nat) (i1 : Nat) (fz2 : Nat → Nat) (fs2 : Nat → Nat) (fl2 : Nat → Int32) (rz2 : Nat → Nat) (rl2 : Nat → Int32) (bb : Nat → Nat) (pm : Nat → Nat) (H : Heap) (locs : List Loc) (ls : Array Slot), 9 - j < K → va_P D kc_l [mo_c o mth mty x0 mat mfr mto true k x1 x2 x3 mhf mhp mcl mck mba mct x4 x5 x6 x7 x8 mst x9 x10 x11 x12 mtr mrs x13 x14 x15 x16 mwr x17 mfo, ar_n cI x0 250 t, ar_n cI x1 16 rz2, ar_i cI x2 128 rl2, ar_b cZ x3 16 (va_up rd1 k false)] H → va_D A [mo_c o mth mty x0 mat mfr mto true k x1 x2 x3 mhf mhp mcl mck mba mct x4 x5 x6 x7 x8 mst x9 x10 x11 x12 mtr mrs x13 x14 x15 x16 mwr x17 mfo, ar_n cI x0 250 t, ar_n cI x1 16 rz2, ar_i cI x2 128 rl2, ar_b cZ x3 16 (va_up rd1 k false)] → va_S A s.heap H locs → lv_has ls 2 [(1, .int (nI i1)), (0, .ref o)] → (pt_rp t mty (k + 1) (9 - j) i1 fz2 fs2 fl2 = pt_rp t mty (k + 1) 9 (i + 1) (va_up fz1 (k + 1) 0) (va_up fs1 (k + 1) 0) fl1) → (i + 1 ≤ i1 ∧ i1 ≤ mty) → (pt_row rl2 (8 * k) j bb pm (fs2 (k + 1))) → (rz2 k = j ∧ fz2 (k + 1) = j) → (fs2 (k + 1) < 65536) → (pt_rel k fz2 fl2 rz2 rl2) → (∀ a, a < j → rl2 (8 * k + a) = fl2 ((k + 1) * 8 + a)) → W p l e ({ frames := 1, cells := 0, slots := 0, locals := 25 } : Room) s m ([.ref o] : List Value).toArray below meth c H locs 0 0 (MQ below (kw_e (some (.int (kb_i ((pt_pck t mty 16 0 0 fz fs fl dd).1)))) D kc_l (fun ex : { e : Bool × Nat × (Nat → Nat) × (Nat → Int32) × (Nat → Bool) // (pt_pck t mty 16 0 0 fz fs fl dd).1 = true → e.2.1 = (pt_pck t mty 16 0 0 fz fs fl dd).2.1 ∧ pt_rel (pt_pck t mty 16 0 0 fz fs fl dd).2.1 (pt_pck t mty 16 0 0 fz fs fl dd).2.2.1 (pt_pck t mty 16 0 0 fz fs fl dd).2.2.2.2.1 e.2.2.1 e.2.2.2.1 ∧ ∀ i, i < (pt_pck t mty 16 0 0 fz fs fl dd).2.1 → e.2.2.2.2 i = (pt_pck t mty 16 0 0 fz fs fl dd).2.2.2.2.2 (i + 1) } => [mo_c o mth mty x0 mat mfr mto ex.1.1 ex.1.2.1 x1 x2 x3 mhf mhp mcl mck mba mct x4 x5 x6 x7 x8 mst x9 x10 x11 x12 mtr mrs x13 x14 x15 x16 mwr x17 mfo, ar_n cI x0 250 t, ar_n cI x1 16 ex.1.2.2.1, ar_i cI x2 128 ex.1.2.2.2.1, ar_b cZ x3 16 ex.1.2.2.2.2]) A) ([.ref o] : List Value).toArray s 0 0 A) (F0 m 81 ls []) := by
                  intro K
                  induction K with
                  | zero =>
                    intro j i1 fz2 fs2 fl2 rz2 rl2 bb pm H locs ls hk
                    exact absurd hk (Nat.not_lt_zero _)
                  | succ K ih_81 =>
                    intro j i1 fz2 fs2 fl2 rz2 rl2 bb pm H locs ls hk hP hD hS hl h3 h5 hrow hk1 hs16 hr2 hcu
                    refine lv_aload_n hx hb dc_Mo_readPacked_81 rfl (lv_at hl 1 rfl) ?_
                    refine va_get (ci := 10) (v := .int (kb_i true)) (C := rn_Mo) (T := fd_Mo) (N := 36) hx hb hts in_Mo hown hK hP 0 rfl rfl 6 (by decide) (hts _ wd_752) (fun _ h9 => h9) rfl dc_Mo_readPacked_82 ?_
                    refine kb_if_eq hx hb dc_Mo_readPacked_85 rfl (fun hc85 => ?_) (fun hc85 => ?_)
                    · exact absurd hc85 (by decide)
                    · refine lv_iload_n hx hb dc_Mo_readPacked_88 rfl (lv_at hl 0 rfl) ?_
                      refine lv_aload_n hx hb dc_Mo_readPacked_89 rfl (lv_at hl 1 rfl) ?_
                      refine va_get (ci := 10) (v := .int (nI mty)) (C := rn_Mo) (T := fd_Mo) (N := 36) hx hb hts in_Mo hown hK hP 0 rfl rfl 1 (by decide) (hts _ wd_747) (fun _ h9 => h9) rfl dc_Mo_readPacked_90 ?_
                      refine kn_icmp_ge hx hb (by omega) (by omega) dc_Mo_readPacked_93 rfl (fun hc93 => ?_) (fun hc93 => ?_)
                      · have hFf : (pt_pck t mty 16 0 0 fz fs fl dd).1 = false := by rw [← h1]; exact pck_bad (by omega) (fun _ => by rw [← h3, rp_en hrow.1 (by omega)])
                        refine lv_aload_n hx hb dc_Mo_readPacked_148 rfl (lv_at hl 1 rfl) ?_
                        refine lv_aload_n hx hb dc_Mo_readPacked_149 rfl (lv_at hl 1 rfl) ?_
                        refine va_get (ci := 10) (v := .int (kb_i true)) (C := rn_Mo) (T := fd_Mo) (N := 36) hx hb hts in_Mo hown hK hP 0 rfl rfl 6 (by decide) (hts _ wd_752) (fun _ h9 => h9) rfl dc_Mo_readPacked_150 ?_
                        refine kb_if_eq hx hb dc_Mo_readPacked_153 rfl (fun hc153 => ?_) (fun hc153 => ?_)
                        · exact absurd hc153 (by decide)
                        · refine lv_iload_n hx hb dc_Mo_readPacked_156 rfl (lv_at hl 0 rfl) ?_
                          refine lv_aload_n hx hb dc_Mo_readPacked_157 rfl (lv_at hl 1 rfl) ?_
                          refine va_get (ci := 10) (v := .int (nI mty)) (C := rn_Mo) (T := fd_Mo) (N := 36) hx hb hts in_Mo hown hK hP 0 rfl rfl 1 (by decide) (hts _ wd_747) (fun _ h9 => h9) rfl dc_Mo_readPacked_158 ?_
                          refine kn_icmp_ge hx hb (by omega) (by omega) dc_Mo_readPacked_161 rfl (fun hc161 => ?_) (fun hc161 => ?_)
                          · refine lv_iconst (v := nI 0) hx hb dc_Mo_readPacked_168 (by decide +kernel) ?_
                            refine kn_top (y := kb_i false) (by decide +kernel) ?_
                            refine va_put (ci := 10) (v := .int (kb_i false)) (ty := .boolean) (C := rn_Mo) (T := fd_Mo) (N := 36) hx hb hts in_Mo ty_Mo tk_Mo nm_Mo hown hK hP hD hS 0 rfl rfl 6 (by decide) (hts _ wd_752) (fun _ h9 => h9) rfl (by decide +kernel) (kb_nar _) (kb_fit _) (Nat.le_of_ble_eq_true rfl) dc_Mo_readPacked_169 (fun H locs hP hD hS => ?_)
                            have hP : va_P D kc_l [mo_c o mth mty x0 mat mfr mto false k x1 x2 x3 mhf mhp mcl mck mba mct x4 x5 x6 x7 x8 mst x9 x10 x11 x12 mtr mrs x13 x14 x15 x16 mwr x17 mfo, ar_n cI x0 250 t, ar_n cI x1 16 rz2, ar_i cI x2 128 rl2, ar_b cZ x3 16 (va_up rd1 k false)] H := hP
                            have hD : va_D A [mo_c o mth mty x0 mat mfr mto false k x1 x2 x3 mhf mhp mcl mck mba mct x4 x5 x6 x7 x8 mst x9 x10 x11 x12 mtr mrs x13 x14 x15 x16 mwr x17 mfo, ar_n cI x0 250 t, ar_n cI x1 16 rz2, ar_i cI x2 128 rl2, ar_b cZ x3 16 (va_up rd1 k false)] := hD
                            refine lv_iinc (k := 0) (v := nI (i1 + 1)) (lv' := [(1, .int (nI (i1 + 1))), (0, .ref o)]) hx hb dc_Mo_readPacked_172 hl rfl (nI_1 _) (by decide) rfl (fun ls hl => ?_)
                            refine lv_aload_n hx hb dc_Mo_readPacked_175 rfl (lv_at hl 1 rfl) ?_
                            refine lv_dup hx hb dc_Mo_readPacked_176 rfl ?_
                            refine va_get (ci := 10) (v := .int (nI k)) (C := rn_Mo) (T := fd_Mo) (N := 36) hx hb hts in_Mo hown hK hP 0 rfl rfl 7 (by decide) (hts _ wd_753) (fun _ h9 => h9) rfl dc_Mo_readPacked_177 ?_
                            refine lv_iconst (v := nI 1) hx hb dc_Mo_readPacked_180 (by decide +kernel) ?_
                            refine kn_iadd hx hb dc_Mo_readPacked_181 ?_
                            refine va_put (ci := 10) (v := .int (nI (k + 1))) (ty := .int) (C := rn_Mo) (T := fd_Mo) (N := 36) hx hb hts in_Mo ty_Mo tk_Mo nm_Mo hown hK hP hD hS 0 rfl rfl 7 (by decide) (hts _ wd_753) (fun _ h9 => h9) rfl (by decide +kernel) rfl rfl (Nat.le_of_ble_eq_true rfl) dc_Mo_readPacked_182 (fun H locs hP hD hS => ?_)
                            have hP : va_P D kc_l [mo_c o mth mty x0 mat mfr mto false (k + 1) x1 x2 x3 mhf mhp mcl mck mba mct x4 x5 x6 x7 x8 mst x9 x10 x11 x12 mtr mrs x13 x14 x15 x16 mwr x17 mfo, ar_n cI x0 250 t, ar_n cI x1 16 rz2, ar_i cI x2 128 rl2, ar_b cZ x3 16 (va_up rd1 k false)] H := hP
                            have hD : va_D A [mo_c o mth mty x0 mat mfr mto false (k + 1) x1 x2 x3 mhf mhp mcl mck mba mct x4 x5 x6 x7 x8 mst x9 x10 x11 x12 mtr mrs x13 x14 x15 x16 mwr x17 mfo, ar_n cI x0 250 t, ar_n cI x1 16 rz2, ar_i cI x2 128 rl2, ar_b cZ x3 16 (va_up rd1 k false)] := hD
                            refine lv_goto hx hb dc_Mo_readPacked_185 rfl ?_
                            exact jn_12 _ _ _ _ _ _ _ _ hP hD hS hl hFf
                          · exfalso; omega
                      · refine lv_aload_n hx hb dc_Mo_readPacked_96 rfl (lv_at hl 1 rfl) ?_
                        refine va_get (ci := 10) (v := .ref x0) (C := rn_Mo) (T := fd_Mo) (N := 36) hx hb hts in_Mo hown hK hP 0 rfl rfl 2 (by decide) (hts _ wd_748) (fun _ h9 => h9) rfl dc_Mo_readPacked_97 ?_
                        refine lv_iload_n hx hb dc_Mo_readPacked_100 rfl (lv_at hl 0 rfl) ?_
                        refine ka_nald (t := t) hx hb hK hP 1 0 rfl rfl (j := i1) (by omega) (by omega) dc_Mo_readPacked_101 ?_
                        refine kn_if_eq hx hb (Nat.lt_trans (ht i1) (by decide)) dc_Mo_readPacked_102 rfl (fun hc102 => ?_) (fun hc102 => ?_)
                        · have hZ0 : pt_rp t mty (k + 1) 9 (i + 1) (va_up fz1 (k + 1) 0) (va_up fs1 (k + 1) 0) fl1 = (nI (i1 + 1), fz2, fs2, fl2) := by rw [← h3, rp_0 hrow.1 (by omega) hc102]
                          have hre : pt_rel (k + 1) fz2 fl2 rz2 rl2 := rel_en hr2 (by rw [hk1.1]; exact hrow.1) (by rw [hk1.1, hk1.2]) (fun a ha => hcu a (by rw [hk1.1] at ha; exact ha))
                          refine lv_aload_n hx hb dc_Mo_readPacked_148 rfl (lv_at hl 1 rfl) ?_
                          refine lv_aload_n hx hb dc_Mo_readPacked_149 rfl (lv_at hl 1 rfl) ?_
                          refine va_get (ci := 10) (v := .int (kb_i true)) (C := rn_Mo) (T := fd_Mo) (N := 36) hx hb hts in_Mo hown hK hP 0 rfl rfl 6 (by decide) (hts _ wd_752) (fun _ h9 => h9) rfl dc_Mo_readPacked_150 ?_
                          refine kb_if_eq hx hb dc_Mo_readPacked_153 rfl (fun hc153 => ?_) (fun hc153 => ?_)
                          · exact absurd hc153 (by decide)
                          · refine lv_iload_n hx hb dc_Mo_readPacked_156 rfl (lv_at hl 0 rfl) ?_
                            refine lv_aload_n hx hb dc_Mo_readPacked_157 rfl (lv_at hl 1 rfl) ?_
                            refine va_get (ci := 10) (v := .int (nI mty)) (C := rn_Mo) (T := fd_Mo) (N := 36) hx hb hts in_Mo hown hK hP 0 rfl rfl 1 (by decide) (hts _ wd_747) (fun _ h9 => h9) rfl dc_Mo_readPacked_158 ?_
                            refine kn_icmp_ge hx hb (by omega) (by omega) dc_Mo_readPacked_161 rfl (fun hc161 => ?_) (fun hc161 => ?_)
                            · exfalso; omega
                            · refine lv_iconst (v := nI 1) hx hb dc_Mo_readPacked_164 (by decide +kernel) ?_
                              refine lv_goto hx hb dc_Mo_readPacked_165 rfl ?_
                              refine kn_top (y := kb_i true) (by decide +kernel) ?_
                              refine va_put (ci := 10) (v := .int (kb_i true)) (ty := .boolean) (C := rn_Mo) (T := fd_Mo) (N := 36) hx hb hts in_Mo ty_Mo tk_Mo nm_Mo hown hK hP hD hS 0 rfl rfl 6 (by decide) (hts _ wd_752) (fun _ h9 => h9) rfl (by decide +kernel) (kb_nar _) (kb_fit _) (Nat.le_of_ble_eq_true rfl) dc_Mo_readPacked_169 (fun H locs hP hD hS => ?_)
                              have hP : va_P D kc_l [mo_c o mth mty x0 mat mfr mto true k x1 x2 x3 mhf mhp mcl mck mba mct x4 x5 x6 x7 x8 mst x9 x10 x11 x12 mtr mrs x13 x14 x15 x16 mwr x17 mfo, ar_n cI x0 250 t, ar_n cI x1 16 rz2, ar_i cI x2 128 rl2, ar_b cZ x3 16 (va_up rd1 k false)] H := hP
                              have hD : va_D A [mo_c o mth mty x0 mat mfr mto true k x1 x2 x3 mhf mhp mcl mck mba mct x4 x5 x6 x7 x8 mst x9 x10 x11 x12 mtr mrs x13 x14 x15 x16 mwr x17 mfo, ar_n cI x0 250 t, ar_n cI x1 16 rz2, ar_i cI x2 128 rl2, ar_b cZ x3 16 (va_up rd1 k false)] := hD
                              refine lv_iinc (k := 0) (v := nI (i1 + 1)) (lv' := [(1, .int (nI (i1 + 1))), (0, .ref o)]) hx hb dc_Mo_readPacked_172 hl rfl (nI_1 _) (by decide) rfl (fun ls hl => ?_)
                              refine lv_aload_n hx hb dc_Mo_readPacked_175 rfl (lv_at hl 1 rfl) ?_
                              refine lv_dup hx hb dc_Mo_readPacked_176 rfl ?_
                              refine va_get (ci := 10) (v := .int (nI k)) (C := rn_Mo) (T := fd_Mo) (N := 36) hx hb hts in_Mo hown hK hP 0 rfl rfl 7 (by decide) (hts _ wd_753) (fun _ h9 => h9) rfl dc_Mo_readPacked_177 ?_
                              refine lv_iconst (v := nI 1) hx hb dc_Mo_readPacked_180 (by decide +kernel) ?_
                              refine kn_iadd hx hb dc_Mo_readPacked_181 ?_
                              refine va_put (ci := 10) (v := .int (nI (k + 1))) (ty := .int) (C := rn_Mo) (T := fd_Mo) (N := 36) hx hb hts in_Mo ty_Mo tk_Mo nm_Mo hown hK hP hD hS 0 rfl rfl 7 (by decide) (hts _ wd_753) (fun _ h9 => h9) rfl (by decide +kernel) rfl rfl (Nat.le_of_ble_eq_true rfl) dc_Mo_readPacked_182 (fun H locs hP hD hS => ?_)
                              have hP : va_P D kc_l [mo_c o mth mty x0 mat mfr mto true (k + 1) x1 x2 x3 mhf mhp mcl mck mba mct x4 x5 x6 x7 x8 mst x9 x10 x11 x12 mtr mrs x13 x14 x15 x16 mwr x17 mfo, ar_n cI x0 250 t, ar_n cI x1 16 rz2, ar_i cI x2 128 rl2, ar_b cZ x3 16 (va_up rd1 k false)] H := hP
                              have hD : va_D A [mo_c o mth mty x0 mat mfr mto true (k + 1) x1 x2 x3 mhf mhp mcl mck mba mct x4 x5 x6 x7 x8 mst x9 x10 x11 x12 mtr mrs x13 x14 x15 x16 mwr x17 mfo, ar_n cI x0 250 t, ar_n cI x1 16 rz2, ar_i cI x2 128 rl2, ar_b cZ x3 16 (va_up rd1 k false)] := hD
                              refine lv_goto hx hb dc_Mo_readPacked_185 rfl ?_
                              exact ih_12 _ _ _ _ _ _ _ _ _ _ _ _ (by omega) hP hD hS hl (by rw [← h1, pck_go hk16 (by omega) hkd hdd rfl (by rw [hZ0]) (by omega), hZ0]) (by omega) (by omega) (hre) (rd_st hrd1)
                        · refine lv_aload_n hx hb dc_Mo_readPacked_105 rfl (lv_at hl 1 rfl) ?_
                          refine lv_aload_n hx hb dc_Mo_readPacked_106 rfl (lv_at hl 1 rfl) ?_
                          refine va_get (ci := 10) (v := .ref x0) (C := rn_Mo) (T := fd_Mo) (N := 36) hx hb hts in_Mo hown hK hP 0 rfl rfl 2 (by decide) (hts _ wd_748) (fun _ h9 => h9) rfl dc_Mo_readPacked_107 ?_
                          refine lv_iload_n hx hb dc_Mo_readPacked_110 rfl (lv_at hl 0 rfl) ?_
                          refine ka_nald (t := t) hx hb hK hP 1 0 rfl rfl (j := i1) (by omega) (by omega) dc_Mo_readPacked_111 ?_
                          refine lv_iconst (v := nI 2) hx hb dc_Mo_readPacked_112 (by decide +kernel) ?_
                          refine t_irem (v := nI ((t i1) % 2)) hx hb dc_Mo_readPacked_113 (by decide) (rem_2 _ (ht _)) ?_
                          refine kn_if_ne hx hb (by omega) dc_Mo_readPacked_114 rfl (fun hc114 => ?_) (fun hc114 => ?_)
                          · refine lv_aload_n hx hb dc_Mo_readPacked_128 rfl (lv_at hl 1 rfl) ?_
                            refine va_get (ci := 10) (v := .ref x0) (C := rn_Mo) (T := fd_Mo) (N := 36) hx hb hts in_Mo hown hK hP 0 rfl rfl 2 (by decide) (hts _ wd_748) (fun _ h9 => h9) rfl dc_Mo_readPacked_129 ?_
                            refine lv_iload_n hx hb dc_Mo_readPacked_132 rfl (lv_at hl 0 rfl) ?_
                            refine ka_nald (t := t) hx hb hK hP 1 0 rfl rfl (j := i1) (by omega) (by omega) dc_Mo_readPacked_133 ?_
                            refine lv_iconst (v := nI 2) hx hb dc_Mo_readPacked_134 (by decide +kernel) ?_
                            refine lv_idiv hx hb dc_Mo_readPacked_135 (by decide) ?_
                            refine kn_top (y := nI ((t i1) / 2)) (div_2 _ (ht _)) ?_
                            refine lv_ineg hx hb dc_Mo_readPacked_136 ?_
                            refine lv_bipush (v := nI 8) hx hb dc_Mo_readPacked_137 (by decide +kernel) ?_
                            have hk8 := hrow.1
                            have h256 := ht i1
                            rcases hlo : pt_lob (t i1) with _ | b
                            · have hFf : (pt_pck t mty 16 0 0 fz fs fl dd).1 = false := by rw [← h1]; exact pck_bad (by omega) (fun _ => by rw [← h3, rp_no hk8 (by omega) hc102 hlo])
                              refine kw_call0 (wr := [ar_n cI x0 250 t, ar_i cI x2 128 rl2, ar_b cZ x3 16 (va_up rd1 k false)]) (ws' := [mo_c o mth mty x0 mat mfr mto false k x1 x2 x3 mhf mhp mcl mck mba mct x4 x5 x6 x7 x8 mst x9 x10 x11 x12 mtr mrs x13 x14 x15 x16 mwr x17 mfo, ar_n cI x0 250 t, ar_n cI x1 16 rz2, ar_i cI x2 128 rl2, ar_b cZ x3 16 (va_up rd1 k false)]) (va_runV (As := [.int (-(nI ((t i1) / 2))), .int (nI 8)]) (rest := []) ⟨hx, hb, hml, hown, hts⟩ (ct_Mo_take_no l D cI cZ _ o mth mty x0 mat mfr mto true k x1 x2 x3 mhf mhp mcl mck mba mct x4 x5 x6 x7 x8 mst x9 x10 x11 x12 mtr mrs x13 x14 x15 x16 mwr x17 mfo rz2 (-(nI ((t i1) / 2))) 8 (rfl) (hk16) (by decide) (by have h9 := lob_none (t i1) h256 hlo; rw [if_neg hc114] at h9; exact h9) (by rw [hk1.1]; exact hk8)) (cwV 2 hts (kx_gV wd_899 wd_901 (kx_sel (q := (yn_Mo_take, 36)) (List.mem_append_right _ (List.mem_append_left _ (List.mem_of_getElem? (i := 2) rfl)))) wd_9 wd_902) rfl rfl rfl ⟨rfl, yd_Mo_take⟩ ⟨Nat.le_of_ble_eq_true rfl, Nat.le_of_ble_eq_true rfl⟩) (kp_V (q0 := 0) (ci := 10) hP hD hK hN [0, 2] rfl rfl rfl rfl rfl) rfl rfl hl.1 rfl (lv_room (Nat.le_of_ble_eq_true rfl)) dc_Mo_readPacked_139 ⟨Nat.le_of_ble_eq_true rfl, Nat.le_of_ble_eq_true rfl⟩) hP hD hS hA [0, 2] [1, 3, 4] [3, 0, 4, 1, 2] rfl rfl rfl (by decide) rfl rfl (fun H locs hP hD hS => ?_)
                              refine lv_iinc (k := 0) (v := nI (i1 + 1)) (lv' := [(1, .int (nI (i1 + 1))), (0, .ref o)]) hx hb dc_Mo_readPacked_142 hl rfl (nI_1 _) (by decide) rfl (fun ls hl => ?_)
                              refine lv_goto hx hb dc_Mo_readPacked_145 rfl ?_
                              exact jn_81 _ _ _ _ _ _ _ _ hP hD hS hl hFf
                            · obtain ⟨hb16, hbe⟩ := lob_some (t i1) h256 b hlo
                              rw [if_neg hc114] at hbe
                              refine kn_top2 (y := pt_lit b) hbe ?_
                              by_cases hfr : ¬ fs2 (k + 1) &&& (2 ^ (b % 8) ||| 2 ^ (b % 8 + 8)) = 0
                              · have hFf : (pt_pck t mty 16 0 0 fz fs fl dd).1 = false := by rw [← h1]; exact pck_bad (by omega) (fun _ => by rw [← h3, rp_dup hk8 (by omega) hc102 hlo hfr])
                                refine kw_call0 (wr := [ar_n cI x0 250 t, ar_b cZ x3 16 (va_up rd1 k false)]) (ws' := [mo_c o mth mty x0 mat mfr mto false k x1 x2 x3 mhf mhp mcl mck mba mct x4 x5 x6 x7 x8 mst x9 x10 x11 x12 mtr mrs x13 x14 x15 x16 mwr x17 mfo, ar_n cI x0 250 t, ar_n cI x1 16 rz2, ar_i cI x2 128 rl2, ar_b cZ x3 16 (va_up rd1 k false)]) (va_runV (As := [.int (pt_lit b), .int (nI 8)]) (rest := []) ⟨hx, hb, hml, hown, hts⟩ (ct_Mo_take_dup l D cI cZ _ o mth mty x0 mat mfr mto true k x1 x2 x3 mhf mhp mcl mck mba mct x4 x5 x6 x7 x8 mst x9 x10 x11 x12 mtr mrs x13 x14 x15 x16 mwr x17 mfo rz2 rl2 b 8 bb pm (fs2 (k + 1)) (rfl) (hk16) (hb16) (by decide) (by omega) (by rw [hk1.1]; exact hk8) (by rw [hk1.1]; exact hrow) (hfr)) (cwV 2 hts (kx_gV wd_899 wd_901 (kx_sel (q := (yn_Mo_take, 36)) (List.mem_append_right _ (List.mem_append_left _ (List.mem_of_getElem? (i := 2) rfl)))) wd_9 wd_902) rfl rfl rfl ⟨rfl, yd_Mo_take⟩ ⟨Nat.le_of_ble_eq_true rfl, Nat.le_of_ble_eq_true rfl⟩) (kp_V (q0 := 0) (ci := 10) hP hD hK hN [0, 2, 3] rfl rfl rfl rfl rfl) rfl rfl hl.1 rfl (lv_room (Nat.le_of_ble_eq_true rfl)) dc_Mo_readPacked_139 ⟨Nat.le_of_ble_eq_true rfl, Nat.le_of_ble_eq_true rfl⟩) hP hD hS hA [0, 2, 3] [1, 4] [2, 0, 3, 4, 1] rfl rfl rfl (by decide) rfl rfl (fun H locs hP hD hS => ?_)
                                refine lv_iinc (k := 0) (v := nI (i1 + 1)) (lv' := [(1, .int (nI (i1 + 1))), (0, .ref o)]) hx hb dc_Mo_readPacked_142 hl rfl (nI_1 _) (by decide) rfl (fun ls hl => ?_)
                                refine lv_goto hx hb dc_Mo_readPacked_145 rfl ?_
                                exact jn_81 _ _ _ _ _ _ _ _ hP hD hS hl hFf
                              · have hfr := Classical.not_not.mp hfr
                                have hw8 : j < 8 := (rm_step (w := j) (x := fs2 (k + 1)) (row_rm hrow hs16) hb16 hfr).1
                                have hrow2 := row_app hrow hb16 hfr hw8 hs16
                                have hgo : pt_rp t mty (k + 1) 9 (i + 1) (va_up fz1 (k + 1) 0) (va_up fs1 (k + 1) 0) fl1 = pt_rp t mty (k + 1) (9 - (j + 1)) (i1 + 1) (va_up fz2 (k + 1) (j + 1)) (va_up fs2 (k + 1) (fs2 (k + 1) ||| 2 ^ b)) (upd fl2 ((k + 1) * 8 + j) (pt_lit b)) := by rw [← h3, rp_go hk8 (by omega) hc102 hlo hfr, hk1.2]
                                refine kw_call0 (wr := [ar_n cI x0 250 t, ar_b cZ x3 16 (va_up rd1 k false)]) (ws' := [mo_c o mth mty x0 mat mfr mto true k x1 x2 x3 mhf mhp mcl mck mba mct x4 x5 x6 x7 x8 mst x9 x10 x11 x12 mtr mrs x13 x14 x15 x16 mwr x17 mfo, ar_n cI x0 250 t, ar_n cI x1 16 (va_up rz2 k (rz2 k + 1)), ar_i cI x2 128 (upd rl2 (8 * k + rz2 k) (pt_lit b)), ar_b cZ x3 16 (va_up rd1 k false)]) (va_runV (As := [.int (pt_lit b), .int (nI 8)]) (rest := []) ⟨hx, hb, hml, hown, hts⟩ (ct_Mo_take l D cI cZ _ o mth mty x0 mat mfr mto true k x1 x2 x3 mhf mhp mcl mck mba mct x4 x5 x6 x7 x8 mst x9 x10 x11 x12 mtr mrs x13 x14 x15 x16 mwr x17 mfo rz2 rl2 b 8 bb pm (fs2 (k + 1)) (rfl) (hk16) (hb16) (by decide) (by omega) (by rw [hk1.1]; exact hw8) (by rw [hk1.1]; exact hrow) (hfr)) (cwV 2 hts (kx_gV wd_899 wd_901 (kx_sel (q := (yn_Mo_take, 36)) (List.mem_append_right _ (List.mem_append_left _ (List.mem_of_getElem? (i := 2) rfl)))) wd_9 wd_902) rfl rfl rfl ⟨rfl, yd_Mo_take⟩ ⟨Nat.le_of_ble_eq_true rfl, Nat.le_of_ble_eq_true rfl⟩) (kp_V (q0 := 0) (ci := 10) hP hD hK hN [0, 2, 3] rfl rfl rfl rfl rfl) rfl rfl hl.1 rfl (lv_room (Nat.le_of_ble_eq_true rfl)) dc_Mo_readPacked_139 ⟨Nat.le_of_ble_eq_true rfl, Nat.le_of_ble_eq_true rfl⟩) hP hD hS hA [0, 2, 3] [1, 4] [2, 0, 3, 4, 1] rfl rfl rfl (by decide) rfl rfl (fun H locs hP hD hS => ?_)
                                have e2 : va_up rz2 k (rz2 k + 1) = va_up rz2 k (j + 1) := by rw [hk1.1]
                                have e3 : upd rl2 (8 * k + rz2 k) (pt_lit b) = upd rl2 (8 * k + j) (pt_lit b) := by rw [hk1.1]
                                rw [e2, e3] at hP hD
                                refine lv_iinc (k := 0) (v := nI (i1 + 1)) (lv' := [(1, .int (nI (i1 + 1))), (0, .ref o)]) hx hb dc_Mo_readPacked_142 hl rfl (nI_1 _) (by decide) rfl (fun ls hl => ?_)
                                refine lv_goto hx hb dc_Mo_readPacked_145 rfl ?_
                                exact ih_81 _ _ _ _ _ _ _ _ _ _ _ _ (by omega) hP hD hS hl (hgo.symm) (⟨by omega, by omega⟩) (by rw [va_up_self]; exact hrow2) (⟨va_up_self _ _ _, va_up_self _ _ _⟩) (by rw [va_up_self]; exact Nat.or_lt_two_pow (n := 16) hs16 (Nat.pow_lt_pow_right (by decide) hb16)) (rel_st hr2 (by omega) (by omega)) (cur_st hcu)
                          · refine lv_aload_n hx hb dc_Mo_readPacked_117 rfl (lv_at hl 1 rfl) ?_
                            refine va_get (ci := 10) (v := .ref x0) (C := rn_Mo) (T := fd_Mo) (N := 36) hx hb hts in_Mo hown hK hP 0 rfl rfl 2 (by decide) (hts _ wd_748) (fun _ h9 => h9) rfl dc_Mo_readPacked_118 ?_
                            refine lv_iload_n hx hb dc_Mo_readPacked_121 rfl (lv_at hl 0 rfl) ?_
                            refine ka_nald (t := t) hx hb hK hP 1 0 rfl rfl (j := i1) (by omega) (by omega) dc_Mo_readPacked_122 ?_
                            refine lv_iconst (v := nI 2) hx hb dc_Mo_readPacked_123 (by decide +kernel) ?_
                            refine lv_idiv hx hb dc_Mo_readPacked_124 (by decide) ?_
                            refine kn_top (y := nI ((t i1) / 2)) (div_2 _ (ht _)) ?_
                            refine lv_goto hx hb dc_Mo_readPacked_125 rfl ?_
                            refine lv_bipush (v := nI 8) hx hb dc_Mo_readPacked_137 (by decide +kernel) ?_
                            have hk8 := hrow.1
                            have h256 := ht i1
                            rcases hlo : pt_lob (t i1) with _ | b
                            · have hFf : (pt_pck t mty 16 0 0 fz fs fl dd).1 = false := by rw [← h1]; exact pck_bad (by omega) (fun _ => by rw [← h3, rp_no hk8 (by omega) hc102 hlo])
                              refine kw_call0 (wr := [ar_n cI x0 250 t, ar_i cI x2 128 rl2, ar_b cZ x3 16 (va_up rd1 k false)]) (ws' := [mo_c o mth mty x0 mat mfr mto false k x1 x2 x3 mhf mhp mcl mck mba mct x4 x5 x6 x7 x8 mst x9 x10 x11 x12 mtr mrs x13 x14 x15 x16 mwr x17 mfo, ar_n cI x0 250 t, ar_n cI x1 16 rz2, ar_i cI x2 128 rl2, ar_b cZ x3 16 (va_up rd1 k false)]) (va_runV (As := [.int (nI ((t i1) / 2)), .int (nI 8)]) (rest := []) ⟨hx, hb, hml, hown, hts⟩ (ct_Mo_take_no l D cI cZ _ o mth mty x0 mat mfr mto true k x1 x2 x3 mhf mhp mcl mck mba mct x4 x5 x6 x7 x8 mst x9 x10 x11 x12 mtr mrs x13 x14 x15 x16 mwr x17 mfo rz2 (nI ((t i1) / 2)) 8 (rfl) (hk16) (by decide) (by have h9 := lob_none (t i1) h256 hlo; rw [if_pos hc114] at h9; exact h9) (by rw [hk1.1]; exact hk8)) (cwV 2 hts (kx_gV wd_899 wd_901 (kx_sel (q := (yn_Mo_take, 36)) (List.mem_append_right _ (List.mem_append_left _ (List.mem_of_getElem? (i := 2) rfl)))) wd_9 wd_902) rfl rfl rfl ⟨rfl, yd_Mo_take⟩ ⟨Nat.le_of_ble_eq_true rfl, Nat.le_of_ble_eq_true rfl⟩) (kp_V (q0 := 0) (ci := 10) hP hD hK hN [0, 2] rfl rfl rfl rfl rfl) rfl rfl hl.1 rfl (lv_room (Nat.le_of_ble_eq_true rfl)) dc_Mo_readPacked_139 ⟨Nat.le_of_ble_eq_true rfl, Nat.le_of_ble_eq_true rfl⟩) hP hD hS hA [0, 2] [1, 3, 4] [3, 0, 4, 1, 2] rfl rfl rfl (by decide) rfl rfl (fun H locs hP hD hS => ?_)
                              refine lv_iinc (k := 0) (v := nI (i1 + 1)) (lv' := [(1, .int (nI (i1 + 1))), (0, .ref o)]) hx hb dc_Mo_readPacked_142 hl rfl (nI_1 _) (by decide) rfl (fun ls hl => ?_)
                              refine lv_goto hx hb dc_Mo_readPacked_145 rfl ?_
                              exact jn_81 _ _ _ _ _ _ _ _ hP hD hS hl hFf
                            · obtain ⟨hb16, hbe⟩ := lob_some (t i1) h256 b hlo
                              rw [if_pos hc114] at hbe
                              refine kn_top2 (y := pt_lit b) hbe ?_
                              by_cases hfr : ¬ fs2 (k + 1) &&& (2 ^ (b % 8) ||| 2 ^ (b % 8 + 8)) = 0
                              · have hFf : (pt_pck t mty 16 0 0 fz fs fl dd).1 = false := by rw [← h1]; exact pck_bad (by omega) (fun _ => by rw [← h3, rp_dup hk8 (by omega) hc102 hlo hfr])
                                refine kw_call0 (wr := [ar_n cI x0 250 t, ar_b cZ x3 16 (va_up rd1 k false)]) (ws' := [mo_c o mth mty x0 mat mfr mto false k x1 x2 x3 mhf mhp mcl mck mba mct x4 x5 x6 x7 x8 mst x9 x10 x11 x12 mtr mrs x13 x14 x15 x16 mwr x17 mfo, ar_n cI x0 250 t, ar_n cI x1 16 rz2, ar_i cI x2 128 rl2, ar_b cZ x3 16 (va_up rd1 k false)]) (va_runV (As := [.int (pt_lit b), .int (nI 8)]) (rest := []) ⟨hx, hb, hml, hown, hts⟩ (ct_Mo_take_dup l D cI cZ _ o mth mty x0 mat mfr mto true k x1 x2 x3 mhf mhp mcl mck mba mct x4 x5 x6 x7 x8 mst x9 x10 x11 x12 mtr mrs x13 x14 x15 x16 mwr x17 mfo rz2 rl2 b 8 bb pm (fs2 (k + 1)) (rfl) (hk16) (hb16) (by decide) (by omega) (by rw [hk1.1]; exact hk8) (by rw [hk1.1]; exact hrow) (hfr)) (cwV 2 hts (kx_gV wd_899 wd_901 (kx_sel (q := (yn_Mo_take, 36)) (List.mem_append_right _ (List.mem_append_left _ (List.mem_of_getElem? (i := 2) rfl)))) wd_9 wd_902) rfl rfl rfl ⟨rfl, yd_Mo_take⟩ ⟨Nat.le_of_ble_eq_true rfl, Nat.le_of_ble_eq_true rfl⟩) (kp_V (q0 := 0) (ci := 10) hP hD hK hN [0, 2, 3] rfl rfl rfl rfl rfl) rfl rfl hl.1 rfl (lv_room (Nat.le_of_ble_eq_true rfl)) dc_Mo_readPacked_139 ⟨Nat.le_of_ble_eq_true rfl, Nat.le_of_ble_eq_true rfl⟩) hP hD hS hA [0, 2, 3] [1, 4] [2, 0, 3, 4, 1] rfl rfl rfl (by decide) rfl rfl (fun H locs hP hD hS => ?_)
                                refine lv_iinc (k := 0) (v := nI (i1 + 1)) (lv' := [(1, .int (nI (i1 + 1))), (0, .ref o)]) hx hb dc_Mo_readPacked_142 hl rfl (nI_1 _) (by decide) rfl (fun ls hl => ?_)
                                refine lv_goto hx hb dc_Mo_readPacked_145 rfl ?_
                                exact jn_81 _ _ _ _ _ _ _ _ hP hD hS hl hFf
                              · have hfr := Classical.not_not.mp hfr
                                have hw8 : j < 8 := (rm_step (w := j) (x := fs2 (k + 1)) (row_rm hrow hs16) hb16 hfr).1
                                have hrow2 := row_app hrow hb16 hfr hw8 hs16
                                have hgo : pt_rp t mty (k + 1) 9 (i + 1) (va_up fz1 (k + 1) 0) (va_up fs1 (k + 1) 0) fl1 = pt_rp t mty (k + 1) (9 - (j + 1)) (i1 + 1) (va_up fz2 (k + 1) (j + 1)) (va_up fs2 (k + 1) (fs2 (k + 1) ||| 2 ^ b)) (upd fl2 ((k + 1) * 8 + j) (pt_lit b)) := by rw [← h3, rp_go hk8 (by omega) hc102 hlo hfr, hk1.2]
                                refine kw_call0 (wr := [ar_n cI x0 250 t, ar_b cZ x3 16 (va_up rd1 k false)]) (ws' := [mo_c o mth mty x0 mat mfr mto true k x1 x2 x3 mhf mhp mcl mck mba mct x4 x5 x6 x7 x8 mst x9 x10 x11 x12 mtr mrs x13 x14 x15 x16 mwr x17 mfo, ar_n cI x0 250 t, ar_n cI x1 16 (va_up rz2 k (rz2 k + 1)), ar_i cI x2 128 (upd rl2 (8 * k + rz2 k) (pt_lit b)), ar_b cZ x3 16 (va_up rd1 k false)]) (va_runV (As := [.int (pt_lit b), .int (nI 8)]) (rest := []) ⟨hx, hb, hml, hown, hts⟩ (ct_Mo_take l D cI cZ _ o mth mty x0 mat mfr mto true k x1 x2 x3 mhf mhp mcl mck mba mct x4 x5 x6 x7 x8 mst x9 x10 x11 x12 mtr mrs x13 x14 x15 x16 mwr x17 mfo rz2 rl2 b 8 bb pm (fs2 (k + 1)) (rfl) (hk16) (hb16) (by decide) (by omega) (by rw [hk1.1]; exact hw8) (by rw [hk1.1]; exact hrow) (hfr)) (cwV 2 hts (kx_gV wd_899 wd_901 (kx_sel (q := (yn_Mo_take, 36)) (List.mem_append_right _ (List.mem_append_left _ (List.mem_of_getElem? (i := 2) rfl)))) wd_9 wd_902) rfl rfl rfl ⟨rfl, yd_Mo_take⟩ ⟨Nat.le_of_ble_eq_true rfl, Nat.le_of_ble_eq_true rfl⟩) (kp_V (q0 := 0) (ci := 10) hP hD hK hN [0, 2, 3] rfl rfl rfl rfl rfl) rfl rfl hl.1 rfl (lv_room (Nat.le_of_ble_eq_true rfl)) dc_Mo_readPacked_139 ⟨Nat.le_of_ble_eq_true rfl, Nat.le_of_ble_eq_true rfl⟩) hP hD hS hA [0, 2, 3] [1, 4] [2, 0, 3, 4, 1] rfl rfl rfl (by decide) rfl rfl (fun H locs hP hD hS => ?_)
                                have e2 : va_up rz2 k (rz2 k + 1) = va_up rz2 k (j + 1) := by rw [hk1.1]
                                have e3 : upd rl2 (8 * k + rz2 k) (pt_lit b) = upd rl2 (8 * k + j) (pt_lit b) := by rw [hk1.1]
                                rw [e2, e3] at hP hD
                                refine lv_iinc (k := 0) (v := nI (i1 + 1)) (lv' := [(1, .int (nI (i1 + 1))), (0, .ref o)]) hx hb dc_Mo_readPacked_142 hl rfl (nI_1 _) (by decide) rfl (fun ls hl => ?_)
                                refine lv_goto hx hb dc_Mo_readPacked_145 rfl ?_
                                exact ih_81 _ _ _ _ _ _ _ _ _ _ _ _ (by omega) hP hD hS hl (hgo.symm) (⟨by omega, by omega⟩) (by rw [va_up_self]; exact hrow2) (⟨va_up_self _ _ _, va_up_self _ _ _⟩) (by rw [va_up_self]; exact Nat.or_lt_two_pow (n := 16) hs16 (Nat.pow_lt_pow_right (by decide) hb16)) (rel_st hr2 (by omega) (by omega)) (cur_st hcu)
                exact lp_81 _ 0 (i + 1) (va_up fz1 (k + 1) 0) (va_up fs1 (k + 1) 0) fl1 (va_up rz1 k 0) rl1 ((fun _ => 0)) ((fun _ => 0)) _ _ _ (Nat.lt_succ_self _) hP hD hS hl (rfl) (⟨by omega, by omega⟩) (by rw [va_up_self]; exact row_e) (⟨va_up_self _ _ _, va_up_self _ _ _⟩) (by rw [va_up_self]; decide) (rel_z hr1) (fun a ha => absurd ha (Nat.not_lt_zero a))
              · exfalso; omega
            · have hFf : (pt_pck t mty 16 0 0 fz fs fl dd).1 = false := by rw [← h1]; exact pck_full (by omega) (by omega)
              refine lv_aload_n hx hb dc_Mo_readPacked_58 rfl (lv_at hl 1 rfl) ?_
              refine lv_aload_n hx hb dc_Mo_readPacked_59 rfl (lv_at hl 1 rfl) ?_
              refine va_get (ci := 10) (v := .ref x0) (C := rn_Mo) (T := fd_Mo) (N := 36) hx hb hts in_Mo hown hK hP 0 rfl rfl 2 (by decide) (hts _ wd_748) (fun _ h9 => h9) rfl dc_Mo_readPacked_60 ?_
              refine lv_iload_n hx hb dc_Mo_readPacked_63 rfl (lv_at hl 0 rfl) ?_
              refine ka_nald (t := t) hx hb hK hP 1 0 rfl rfl (j := i) (by omega) (by omega) dc_Mo_readPacked_64 ?_
              refine lv_bipush (v := nI 100) hx hb dc_Mo_readPacked_65 (by decide +kernel) ?_
              refine kn_icmp_ne hx hb (Nat.lt_trans (ht i) (by decide)) (by omega) dc_Mo_readPacked_67 rfl (fun hc67 => ?_) (fun hc67 => ?_)
              · refine lv_iconst (v := nI 0) hx hb dc_Mo_readPacked_74 (by decide +kernel) ?_
                refine kn_top (y := kb_i false) (by decide +kernel) ?_
                refine kw_call0 (wr := [ar_n cI x0 250 t, ar_n cI x1 16 rz1, ar_i cI x2 128 rl1, ar_b cZ x3 16 rd1]) (ws' := [mo_c o mth mty x0 mat mfr mto false k x1 x2 x3 mhf mhp mcl mck mba mct x4 x5 x6 x7 x8 mst x9 x10 x11 x12 mtr mrs x13 x14 x15 x16 mwr x17 mfo, ar_n cI x0 250 t, ar_n cI x1 16 rz1, ar_i cI x2 128 rl1, ar_b cZ x3 16 rd1]) (va_runV (As := [.int (kb_i false)]) (rest := []) ⟨hx, hb, hml, hown, hts⟩ (ct_Mo_beginClause_full l D cI cZ _ o mth mty x0 mat mfr mto true k x1 x2 x3 mhf mhp mcl mck mba mct x4 x5 x6 x7 x8 mst x9 x10 x11 x12 mtr mrs x13 x14 x15 x16 mwr x17 mfo false (rfl) (by omega) (by omega)) (cwV 1 hts (kx_gV wd_895 wd_897 (kx_sel (q := (yn_Mo_beginClause, 36)) (List.mem_append_right _ (List.mem_append_left _ (List.mem_of_getElem? (i := 1) rfl)))) wd_9 wd_898) rfl rfl rfl ⟨rfl, yd_Mo_beginClause⟩ ⟨Nat.le_of_ble_eq_true rfl, Nat.le_of_ble_eq_true rfl⟩) (kp_V (q0 := 0) (ci := 10) hP hD hK hN [0] rfl rfl rfl rfl rfl) rfl rfl hl.1 rfl (lv_room (Nat.le_of_ble_eq_true rfl)) dc_Mo_readPacked_75 ⟨Nat.le_of_ble_eq_true rfl, Nat.le_of_ble_eq_true rfl⟩) hP hD hS hA [0] [1, 2, 3, 4] [4, 0, 1, 2, 3] rfl rfl rfl (by decide) rfl rfl (fun H locs hP hD hS => ?_)
                refine lv_iinc (k := 0) (v := nI (i + 1)) (lv' := [(1, .int (nI (i + 1))), (0, .ref o)]) hx hb dc_Mo_readPacked_78 hl rfl (nI_1 _) (by decide) rfl (fun ls hl => ?_)
                exact jn_81 _ _ _ _ _ _ _ _ hP hD hS hl hFf
              · exfalso; omega
          · refine lv_aload_n hx hb dc_Mo_readPacked_39 rfl (lv_at hl 1 rfl) ?_
            refine va_get (ci := 10) (v := .ref x0) (C := rn_Mo) (T := fd_Mo) (N := 36) hx hb hts in_Mo hown hK hP 0 rfl rfl 2 (by decide) (hts _ wd_748) (fun _ h9 => h9) rfl dc_Mo_readPacked_40 ?_
            refine lv_iload_n hx hb dc_Mo_readPacked_43 rfl (lv_at hl 0 rfl) ?_
            refine ka_nald (t := t) hx hb hK hP 1 0 rfl rfl (j := i) (by omega) (by omega) dc_Mo_readPacked_44 ?_
            refine lv_bipush (v := nI 100) hx hb dc_Mo_readPacked_45 (by decide +kernel) ?_
            refine kn_icmp_ne hx hb (Nat.lt_trans (ht i) (by decide)) (by omega) dc_Mo_readPacked_47 rfl (fun hc47 => ?_) (fun hc47 => ?_)
            · refine lv_iconst (v := nI 0) hx hb dc_Mo_readPacked_54 (by decide +kernel) ?_
              refine kn_top (y := kb_i false) (by decide +kernel) ?_
              refine va_put (ci := 10) (v := .int (kb_i false)) (ty := .boolean) (C := rn_Mo) (T := fd_Mo) (N := 36) hx hb hts in_Mo ty_Mo tk_Mo nm_Mo hown hK hP hD hS 0 rfl rfl 6 (by decide) (hts _ wd_752) (fun _ h9 => h9) rfl (by decide +kernel) (kb_nar _) (kb_fit _) (Nat.le_of_ble_eq_true rfl) dc_Mo_readPacked_55 (fun H locs hP hD hS => ?_)
              have hP : va_P D kc_l [mo_c o mth mty x0 mat mfr mto false k x1 x2 x3 mhf mhp mcl mck mba mct x4 x5 x6 x7 x8 mst x9 x10 x11 x12 mtr mrs x13 x14 x15 x16 mwr x17 mfo, ar_n cI x0 250 t, ar_n cI x1 16 rz1, ar_i cI x2 128 rl1, ar_b cZ x3 16 rd1] H := hP
              have hD : va_D A [mo_c o mth mty x0 mat mfr mto false k x1 x2 x3 mhf mhp mcl mck mba mct x4 x5 x6 x7 x8 mst x9 x10 x11 x12 mtr mrs x13 x14 x15 x16 mwr x17 mfo, ar_n cI x0 250 t, ar_n cI x1 16 rz1, ar_i cI x2 128 rl1, ar_b cZ x3 16 rd1] := hD
              have hFf : (pt_pck t mty 16 0 0 fz fs fl dd).1 = false := by rw [← h1]; exact pck_kind (by omega) (by omega)
              refine lv_aload_n hx hb dc_Mo_readPacked_58 rfl (lv_at hl 1 rfl) ?_
              refine lv_aload_n hx hb dc_Mo_readPacked_59 rfl (lv_at hl 1 rfl) ?_
              refine va_get (ci := 10) (v := .ref x0) (C := rn_Mo) (T := fd_Mo) (N := 36) hx hb hts in_Mo hown hK hP 0 rfl rfl 2 (by decide) (hts _ wd_748) (fun _ h9 => h9) rfl dc_Mo_readPacked_60 ?_
              refine lv_iload_n hx hb dc_Mo_readPacked_63 rfl (lv_at hl 0 rfl) ?_
              refine ka_nald (t := t) hx hb hK hP 1 0 rfl rfl (j := i) (by omega) (by omega) dc_Mo_readPacked_64 ?_
              refine lv_bipush (v := nI 100) hx hb dc_Mo_readPacked_65 (by decide +kernel) ?_
              refine kn_icmp_ne hx hb (Nat.lt_trans (ht i) (by decide)) (by omega) dc_Mo_readPacked_67 rfl (fun hc67 => ?_) (fun hc67 => ?_)
              · refine lv_iconst (v := nI 0) hx hb dc_Mo_readPacked_74 (by decide +kernel) ?_
                refine kn_top (y := kb_i false) (by decide +kernel) ?_
                refine kw_call0 (wr := [ar_n cI x0 250 t, ar_n cI x1 16 rz1, ar_i cI x2 128 rl1, ar_b cZ x3 16 rd1]) (ws' := [mo_c o mth mty x0 mat mfr mto false k x1 x2 x3 mhf mhp mcl mck mba mct x4 x5 x6 x7 x8 mst x9 x10 x11 x12 mtr mrs x13 x14 x15 x16 mwr x17 mfo, ar_n cI x0 250 t, ar_n cI x1 16 rz1, ar_i cI x2 128 rl1, ar_b cZ x3 16 rd1]) (va_runV (As := [.int (kb_i false)]) (rest := []) ⟨hx, hb, hml, hown, hts⟩ (ct_Mo_beginClause_bad l D cI cZ _ o mth mty x0 mat mfr mto false k x1 x2 x3 mhf mhp mcl mck mba mct x4 x5 x6 x7 x8 mst x9 x10 x11 x12 mtr mrs x13 x14 x15 x16 mwr x17 mfo false (rfl)) (cwV 1 hts (kx_gV wd_895 wd_897 (kx_sel (q := (yn_Mo_beginClause, 36)) (List.mem_append_right _ (List.mem_append_left _ (List.mem_of_getElem? (i := 1) rfl)))) wd_9 wd_898) rfl rfl rfl ⟨rfl, yd_Mo_beginClause⟩ ⟨Nat.le_of_ble_eq_true rfl, Nat.le_of_ble_eq_true rfl⟩) (kp_V (q0 := 0) (ci := 10) hP hD hK hN [0] rfl rfl rfl rfl rfl) rfl rfl hl.1 rfl (lv_room (Nat.le_of_ble_eq_true rfl)) dc_Mo_readPacked_75 ⟨Nat.le_of_ble_eq_true rfl, Nat.le_of_ble_eq_true rfl⟩) hP hD hS hA [0] [1, 2, 3, 4] [4, 0, 1, 2, 3] rfl rfl rfl (by decide) rfl rfl (fun H locs hP hD hS => ?_)
                refine lv_iinc (k := 0) (v := nI (i + 1)) (lv' := [(1, .int (nI (i + 1))), (0, .ref o)]) hx hb dc_Mo_readPacked_78 hl rfl (nI_1 _) (by decide) rfl (fun ls hl => ?_)
                exact jn_81 _ _ _ _ _ _ _ _ hP hD hS hl hFf
              · exfalso; omega
            · refine lv_iconst (v := nI 1) hx hb dc_Mo_readPacked_50 (by decide +kernel) ?_
              refine lv_goto hx hb dc_Mo_readPacked_51 rfl ?_
              refine kn_top (y := kb_i true) (by decide +kernel) ?_
              refine va_put (ci := 10) (v := .int (kb_i true)) (ty := .boolean) (C := rn_Mo) (T := fd_Mo) (N := 36) hx hb hts in_Mo ty_Mo tk_Mo nm_Mo hown hK hP hD hS 0 rfl rfl 6 (by decide) (hts _ wd_752) (fun _ h9 => h9) rfl (by decide +kernel) (kb_nar _) (kb_fit _) (Nat.le_of_ble_eq_true rfl) dc_Mo_readPacked_55 (fun H locs hP hD hS => ?_)
              have hP : va_P D kc_l [mo_c o mth mty x0 mat mfr mto true k x1 x2 x3 mhf mhp mcl mck mba mct x4 x5 x6 x7 x8 mst x9 x10 x11 x12 mtr mrs x13 x14 x15 x16 mwr x17 mfo, ar_n cI x0 250 t, ar_n cI x1 16 rz1, ar_i cI x2 128 rl1, ar_b cZ x3 16 rd1] H := hP
              have hD : va_D A [mo_c o mth mty x0 mat mfr mto true k x1 x2 x3 mhf mhp mcl mck mba mct x4 x5 x6 x7 x8 mst x9 x10 x11 x12 mtr mrs x13 x14 x15 x16 mwr x17 mfo, ar_n cI x0 250 t, ar_n cI x1 16 rz1, ar_i cI x2 128 rl1, ar_b cZ x3 16 rd1] := hD
              have hkd : t i = 97 ∨ t i = 100 := Or.inr hc47
              have hdd : decide (t i = 100) = true := (decide_eq_true (by omega))
              by_cases hk16 : k < 16
              · refine lv_aload_n hx hb dc_Mo_readPacked_58 rfl (lv_at hl 1 rfl) ?_
                refine lv_aload_n hx hb dc_Mo_readPacked_59 rfl (lv_at hl 1 rfl) ?_
                refine va_get (ci := 10) (v := .ref x0) (C := rn_Mo) (T := fd_Mo) (N := 36) hx hb hts in_Mo hown hK hP 0 rfl rfl 2 (by decide) (hts _ wd_748) (fun _ h9 => h9) rfl dc_Mo_readPacked_60 ?_
                refine lv_iload_n hx hb dc_Mo_readPacked_63 rfl (lv_at hl 0 rfl) ?_
                refine ka_nald (t := t) hx hb hK hP 1 0 rfl rfl (j := i) (by omega) (by omega) dc_Mo_readPacked_64 ?_
                refine lv_bipush (v := nI 100) hx hb dc_Mo_readPacked_65 (by decide +kernel) ?_
                refine kn_icmp_ne hx hb (Nat.lt_trans (ht i) (by decide)) (by omega) dc_Mo_readPacked_67 rfl (fun hc67 => ?_) (fun hc67 => ?_)
                · exfalso; omega
                · refine lv_iconst (v := nI 1) hx hb dc_Mo_readPacked_70 (by decide +kernel) ?_
                  refine kn_top (y := kb_i true) (by decide +kernel) ?_
                  refine lv_goto hx hb dc_Mo_readPacked_71 rfl ?_
                  refine kw_call0 (wr := [ar_n cI x0 250 t, ar_i cI x2 128 rl1]) (ws' := [mo_c o mth mty x0 mat mfr mto true k x1 x2 x3 mhf mhp mcl mck mba mct x4 x5 x6 x7 x8 mst x9 x10 x11 x12 mtr mrs x13 x14 x15 x16 mwr x17 mfo, ar_n cI x0 250 t, ar_n cI x1 16 (va_up rz1 k 0), ar_i cI x2 128 rl1, ar_b cZ x3 16 (va_up rd1 k true)]) (va_runV (As := [.int (kb_i true)]) (rest := []) ⟨hx, hb, hml, hown, hts⟩ (ct_Mo_beginClause l D cI cZ _ o mth mty x0 mat mfr mto true k x1 x2 x3 mhf mhp mcl mck mba mct x4 x5 x6 x7 x8 mst x9 x10 x11 x12 mtr mrs x13 x14 x15 x16 mwr x17 mfo rz1 rd1 true (rfl) (hk16)) (cwV 1 hts (kx_gV wd_895 wd_897 (kx_sel (q := (yn_Mo_beginClause, 36)) (List.mem_append_right _ (List.mem_append_left _ (List.mem_of_getElem? (i := 1) rfl)))) wd_9 wd_898) rfl rfl rfl ⟨rfl, yd_Mo_beginClause⟩ ⟨Nat.le_of_ble_eq_true rfl, Nat.le_of_ble_eq_true rfl⟩) (kp_V (q0 := 0) (ci := 10) hP hD hK hN [0, 2, 4] rfl rfl rfl rfl rfl) rfl rfl hl.1 rfl (lv_room (Nat.le_of_ble_eq_true rfl)) dc_Mo_readPacked_75 ⟨Nat.le_of_ble_eq_true rfl, Nat.le_of_ble_eq_true rfl⟩) hP hD hS hA [0, 2, 4] [1, 3] [2, 0, 3, 1, 4] rfl rfl rfl (by decide) rfl rfl (fun H locs hP hD hS => ?_)
                  refine lv_iinc (k := 0) (v := nI (i + 1)) (lv' := [(1, .int (nI (i + 1))), (0, .ref o)]) hx hb dc_Mo_readPacked_78 hl rfl (nI_1 _) (by decide) rfl (fun ls hl => ?_)
                  have lp_81 : ∀ (K : Nat) (j : Nat) (i1 : Nat) (fz2 : Nat → Nat) (fs2 : Nat → Nat) (fl2 : Nat → Int32) (rz2 : Nat → Nat) (rl2 : Nat → Int32) (bb : Nat → Nat) (pm : Nat → Nat) (H : Heap) (locs : List Loc) (ls : Array Slot), 9 - j < K → va_P D kc_l [mo_c o mth mty x0 mat mfr mto true k x1 x2 x3 mhf mhp mcl mck mba mct x4 x5 x6 x7 x8 mst x9 x10 x11 x12 mtr mrs x13 x14 x15 x16 mwr x17 mfo, ar_n cI x0 250 t, ar_n cI x1 16 rz2, ar_i cI x2 128 rl2, ar_b cZ x3 16 (va_up rd1 k true)] H → va_D A [mo_c o mth mty x0 mat mfr mto true k x1 x2 x3 mhf mhp mcl mck mba mct x4 x5 x6 x7 x8 mst x9 x10 x11 x12 mtr mrs x13 x14 x15 x16 mwr x17 mfo, ar_n cI x0 250 t, ar_n cI x1 16 rz2, ar_i cI x2 128 rl2, ar_b cZ x3 16 (va_up rd1 k true)] → va_S A s.heap H locs → lv_has ls 2 [(1, .int (nI i1)), (0, .ref o)] → (pt_rp t mty (k + 1) (9 - j) i1 fz2 fs2 fl2 = pt_rp t mty (k + 1) 9 (i + 1) (va_up fz1 (k + 1) 0) (va_up fs1 (k + 1) 0) fl1) → (i + 1 ≤ i1 ∧ i1 ≤ mty) → (pt_row rl2 (8 * k) j bb pm (fs2 (k + 1))) → (rz2 k = j ∧ fz2 (k + 1) = j) → (fs2 (k + 1) < 65536) → (pt_rel k fz2 fl2 rz2 rl2) → (∀ a, a < j → rl2 (8 * k + a) = fl2 ((k + 1) * 8 + a)) → W p l e ({ frames := 1, cells := 0, slots := 0, locals := 25 } : Room) s m ([.ref o] : List Value).toArray below meth c H locs 0 0 (MQ below (kw_e (some (.int (kb_i ((pt_pck t mty 16 0 0 fz fs fl dd).1)))) D kc_l (fun ex : { e : Bool × Nat × (Nat → Nat) × (Nat → Int32) × (Nat → Bool) // (pt_pck t mty 16 0 0 fz fs fl dd).1 = true → e.2.1 = (pt_pck t mty 16 0 0 fz fs fl dd).2.1 ∧ pt_rel (pt_pck t mty 16 0 0 fz fs fl dd).2.1 (pt_pck t mty 16 0 0 fz fs fl dd).2.2.1 (pt_pck t mty 16 0 0 fz fs fl dd).2.2.2.2.1 e.2.2.1 e.2.2.2.1 ∧ ∀ i, i < (pt_pck t mty 16 0 0 fz fs fl dd).2.1 → e.2.2.2.2 i = (pt_pck t mty 16 0 0 fz fs fl dd).2.2.2.2.2 (i + 1) } => [mo_c o mth mty x0 mat mfr mto ex.1.1 ex.1.2.1 x1 x2 x3 mhf mhp mcl mck mba mct x4 x5 x6 x7 x8 mst x9 x10 x11 x12 mtr mrs x13 x14 x15 x16 mwr x17 mfo, ar_n cI x0 250 t, ar_n cI x1 16 ex.1.2.2.1, ar_i cI x2 128 ex.1.2.2.2.1, ar_b cZ x3 16 ex.1.2.2.2.2]) A) ([.ref o] : List Value).toArray s 0 0 A) (F0 m 81 ls []) := by
                    intro K
                    induction K with
                    | zero =>
                      intro j i1 fz2 fs2 fl2 rz2 rl2 bb pm H locs ls hk
                      exact absurd hk (Nat.not_lt_zero _)
                    | succ K ih_81 =>
                      intro j i1 fz2 fs2 fl2 rz2 rl2 bb pm H locs ls hk hP hD hS hl h3 h5 hrow hk1 hs16 hr2 hcu
                      refine lv_aload_n hx hb dc_Mo_readPacked_81 rfl (lv_at hl 1 rfl) ?_
                      refine va_get (ci := 10) (v := .int (kb_i true)) (C := rn_Mo) (T := fd_Mo) (N := 36) hx hb hts in_Mo hown hK hP 0 rfl rfl 6 (by decide) (hts _ wd_752) (fun _ h9 => h9) rfl dc_Mo_readPacked_82 ?_
                      refine kb_if_eq hx hb dc_Mo_readPacked_85 rfl (fun hc85 => ?_) (fun hc85 => ?_)
                      · exact absurd hc85 (by decide)
                      · refine lv_iload_n hx hb dc_Mo_readPacked_88 rfl (lv_at hl 0 rfl) ?_
                        refine lv_aload_n hx hb dc_Mo_readPacked_89 rfl (lv_at hl 1 rfl) ?_
                        refine va_get (ci := 10) (v := .int (nI mty)) (C := rn_Mo) (T := fd_Mo) (N := 36) hx hb hts in_Mo hown hK hP 0 rfl rfl 1 (by decide) (hts _ wd_747) (fun _ h9 => h9) rfl dc_Mo_readPacked_90 ?_
                        refine kn_icmp_ge hx hb (by omega) (by omega) dc_Mo_readPacked_93 rfl (fun hc93 => ?_) (fun hc93 => ?_)
                        · have hFf : (pt_pck t mty 16 0 0 fz fs fl dd).1 = false := by rw [← h1]; exact pck_bad (by omega) (fun _ => by rw [← h3, rp_en hrow.1 (by omega)])
                          refine lv_aload_n hx hb dc_Mo_readPacked_148 rfl (lv_at hl 1 rfl) ?_
                          refine lv_aload_n hx hb dc_Mo_readPacked_149 rfl (lv_at hl 1 rfl) ?_
                          refine va_get (ci := 10) (v := .int (kb_i true)) (C := rn_Mo) (T := fd_Mo) (N := 36) hx hb hts in_Mo hown hK hP 0 rfl rfl 6 (by decide) (hts _ wd_752) (fun _ h9 => h9) rfl dc_Mo_readPacked_150 ?_
                          refine kb_if_eq hx hb dc_Mo_readPacked_153 rfl (fun hc153 => ?_) (fun hc153 => ?_)
                          · exact absurd hc153 (by decide)
                          · refine lv_iload_n hx hb dc_Mo_readPacked_156 rfl (lv_at hl 0 rfl) ?_
                            refine lv_aload_n hx hb dc_Mo_readPacked_157 rfl (lv_at hl 1 rfl) ?_
                            refine va_get (ci := 10) (v := .int (nI mty)) (C := rn_Mo) (T := fd_Mo) (N := 36) hx hb hts in_Mo hown hK hP 0 rfl rfl 1 (by decide) (hts _ wd_747) (fun _ h9 => h9) rfl dc_Mo_readPacked_158 ?_
                            refine kn_icmp_ge hx hb (by omega) (by omega) dc_Mo_readPacked_161 rfl (fun hc161 => ?_) (fun hc161 => ?_)
                            · refine lv_iconst (v := nI 0) hx hb dc_Mo_readPacked_168 (by decide +kernel) ?_
                              refine kn_top (y := kb_i false) (by decide +kernel) ?_
                              refine va_put (ci := 10) (v := .int (kb_i false)) (ty := .boolean) (C := rn_Mo) (T := fd_Mo) (N := 36) hx hb hts in_Mo ty_Mo tk_Mo nm_Mo hown hK hP hD hS 0 rfl rfl 6 (by decide) (hts _ wd_752) (fun _ h9 => h9) rfl (by decide +kernel) (kb_nar _) (kb_fit _) (Nat.le_of_ble_eq_true rfl) dc_Mo_readPacked_169 (fun H locs hP hD hS => ?_)
                              have hP : va_P D kc_l [mo_c o mth mty x0 mat mfr mto false k x1 x2 x3 mhf mhp mcl mck mba mct x4 x5 x6 x7 x8 mst x9 x10 x11 x12 mtr mrs x13 x14 x15 x16 mwr x17 mfo, ar_n cI x0 250 t, ar_n cI x1 16 rz2, ar_i cI x2 128 rl2, ar_b cZ x3 16 (va_up rd1 k true)] H := hP
                              have hD : va_D A [mo_c o mth mty x0 mat mfr mto false k x1 x2 x3 mhf mhp mcl mck mba mct x4 x5 x6 x7 x8 mst x9 x10 x11 x12 mtr mrs x13 x14 x15 x16 mwr x17 mfo, ar_n cI x0 250 t, ar_n cI x1 16 rz2, ar_i cI x2 128 rl2, ar_b cZ x3 16 (va_up rd1 k true)] := hD
                              refine lv_iinc (k := 0) (v := nI (i1 + 1)) (lv' := [(1, .int (nI (i1 + 1))), (0, .ref o)]) hx hb dc_Mo_readPacked_172 hl rfl (nI_1 _) (by decide) rfl (fun ls hl => ?_)
                              refine lv_aload_n hx hb dc_Mo_readPacked_175 rfl (lv_at hl 1 rfl) ?_
                              refine lv_dup hx hb dc_Mo_readPacked_176 rfl ?_
                              refine va_get (ci := 10) (v := .int (nI k)) (C := rn_Mo) (T := fd_Mo) (N := 36) hx hb hts in_Mo hown hK hP 0 rfl rfl 7 (by decide) (hts _ wd_753) (fun _ h9 => h9) rfl dc_Mo_readPacked_177 ?_
                              refine lv_iconst (v := nI 1) hx hb dc_Mo_readPacked_180 (by decide +kernel) ?_
                              refine kn_iadd hx hb dc_Mo_readPacked_181 ?_
                              refine va_put (ci := 10) (v := .int (nI (k + 1))) (ty := .int) (C := rn_Mo) (T := fd_Mo) (N := 36) hx hb hts in_Mo ty_Mo tk_Mo nm_Mo hown hK hP hD hS 0 rfl rfl 7 (by decide) (hts _ wd_753) (fun _ h9 => h9) rfl (by decide +kernel) rfl rfl (Nat.le_of_ble_eq_true rfl) dc_Mo_readPacked_182 (fun H locs hP hD hS => ?_)
                              have hP : va_P D kc_l [mo_c o mth mty x0 mat mfr mto false (k + 1) x1 x2 x3 mhf mhp mcl mck mba mct x4 x5 x6 x7 x8 mst x9 x10 x11 x12 mtr mrs x13 x14 x15 x16 mwr x17 mfo, ar_n cI x0 250 t, ar_n cI x1 16 rz2, ar_i cI x2 128 rl2, ar_b cZ x3 16 (va_up rd1 k true)] H := hP
                              have hD : va_D A [mo_c o mth mty x0 mat mfr mto false (k + 1) x1 x2 x3 mhf mhp mcl mck mba mct x4 x5 x6 x7 x8 mst x9 x10 x11 x12 mtr mrs x13 x14 x15 x16 mwr x17 mfo, ar_n cI x0 250 t, ar_n cI x1 16 rz2, ar_i cI x2 128 rl2, ar_b cZ x3 16 (va_up rd1 k true)] := hD
                              refine lv_goto hx hb dc_Mo_readPacked_185 rfl ?_
                              exact jn_12 _ _ _ _ _ _ _ _ hP hD hS hl hFf
                            · exfalso; omega
                        · refine lv_aload_n hx hb dc_Mo_readPacked_96 rfl (lv_at hl 1 rfl) ?_
                          refine va_get (ci := 10) (v := .ref x0) (C := rn_Mo) (T := fd_Mo) (N := 36) hx hb hts in_Mo hown hK hP 0 rfl rfl 2 (by decide) (hts _ wd_748) (fun _ h9 => h9) rfl dc_Mo_readPacked_97 ?_
                          refine lv_iload_n hx hb dc_Mo_readPacked_100 rfl (lv_at hl 0 rfl) ?_
                          refine ka_nald (t := t) hx hb hK hP 1 0 rfl rfl (j := i1) (by omega) (by omega) dc_Mo_readPacked_101 ?_
                          refine kn_if_eq hx hb (Nat.lt_trans (ht i1) (by decide)) dc_Mo_readPacked_102 rfl (fun hc102 => ?_) (fun hc102 => ?_)
                          · have hZ0 : pt_rp t mty (k + 1) 9 (i + 1) (va_up fz1 (k + 1) 0) (va_up fs1 (k + 1) 0) fl1 = (nI (i1 + 1), fz2, fs2, fl2) := by rw [← h3, rp_0 hrow.1 (by omega) hc102]
                            have hre : pt_rel (k + 1) fz2 fl2 rz2 rl2 := rel_en hr2 (by rw [hk1.1]; exact hrow.1) (by rw [hk1.1, hk1.2]) (fun a ha => hcu a (by rw [hk1.1] at ha; exact ha))
                            refine lv_aload_n hx hb dc_Mo_readPacked_148 rfl (lv_at hl 1 rfl) ?_
                            refine lv_aload_n hx hb dc_Mo_readPacked_149 rfl (lv_at hl 1 rfl) ?_
                            refine va_get (ci := 10) (v := .int (kb_i true)) (C := rn_Mo) (T := fd_Mo) (N := 36) hx hb hts in_Mo hown hK hP 0 rfl rfl 6 (by decide) (hts _ wd_752) (fun _ h9 => h9) rfl dc_Mo_readPacked_150 ?_
                            refine kb_if_eq hx hb dc_Mo_readPacked_153 rfl (fun hc153 => ?_) (fun hc153 => ?_)
                            · exact absurd hc153 (by decide)
                            · refine lv_iload_n hx hb dc_Mo_readPacked_156 rfl (lv_at hl 0 rfl) ?_
                              refine lv_aload_n hx hb dc_Mo_readPacked_157 rfl (lv_at hl 1 rfl) ?_
                              refine va_get (ci := 10) (v := .int (nI mty)) (C := rn_Mo) (T := fd_Mo) (N := 36) hx hb hts in_Mo hown hK hP 0 rfl rfl 1 (by decide) (hts _ wd_747) (fun _ h9 => h9) rfl dc_Mo_readPacked_158 ?_
                              refine kn_icmp_ge hx hb (by omega) (by omega) dc_Mo_readPacked_161 rfl (fun hc161 => ?_) (fun hc161 => ?_)
                              · exfalso; omega
                              · refine lv_iconst (v := nI 1) hx hb dc_Mo_readPacked_164 (by decide +kernel) ?_
                                refine lv_goto hx hb dc_Mo_readPacked_165 rfl ?_
                                refine kn_top (y := kb_i true) (by decide +kernel) ?_
                                refine va_put (ci := 10) (v := .int (kb_i true)) (ty := .boolean) (C := rn_Mo) (T := fd_Mo) (N := 36) hx hb hts in_Mo ty_Mo tk_Mo nm_Mo hown hK hP hD hS 0 rfl rfl 6 (by decide) (hts _ wd_752) (fun _ h9 => h9) rfl (by decide +kernel) (kb_nar _) (kb_fit _) (Nat.le_of_ble_eq_true rfl) dc_Mo_readPacked_169 (fun H locs hP hD hS => ?_)
                                have hP : va_P D kc_l [mo_c o mth mty x0 mat mfr mto true k x1 x2 x3 mhf mhp mcl mck mba mct x4 x5 x6 x7 x8 mst x9 x10 x11 x12 mtr mrs x13 x14 x15 x16 mwr x17 mfo, ar_n cI x0 250 t, ar_n cI x1 16 rz2, ar_i cI x2 128 rl2, ar_b cZ x3 16 (va_up rd1 k true)] H := hP
                                have hD : va_D A [mo_c o mth mty x0 mat mfr mto true k x1 x2 x3 mhf mhp mcl mck mba mct x4 x5 x6 x7 x8 mst x9 x10 x11 x12 mtr mrs x13 x14 x15 x16 mwr x17 mfo, ar_n cI x0 250 t, ar_n cI x1 16 rz2, ar_i cI x2 128 rl2, ar_b cZ x3 16 (va_up rd1 k true)] := hD
                                refine lv_iinc (k := 0) (v := nI (i1 + 1)) (lv' := [(1, .int (nI (i1 + 1))), (0, .ref o)]) hx hb dc_Mo_readPacked_172 hl rfl (nI_1 _) (by decide) rfl (fun ls hl => ?_)
                                refine lv_aload_n hx hb dc_Mo_readPacked_175 rfl (lv_at hl 1 rfl) ?_
                                refine lv_dup hx hb dc_Mo_readPacked_176 rfl ?_
                                refine va_get (ci := 10) (v := .int (nI k)) (C := rn_Mo) (T := fd_Mo) (N := 36) hx hb hts in_Mo hown hK hP 0 rfl rfl 7 (by decide) (hts _ wd_753) (fun _ h9 => h9) rfl dc_Mo_readPacked_177 ?_
                                refine lv_iconst (v := nI 1) hx hb dc_Mo_readPacked_180 (by decide +kernel) ?_
                                refine kn_iadd hx hb dc_Mo_readPacked_181 ?_
                                refine va_put (ci := 10) (v := .int (nI (k + 1))) (ty := .int) (C := rn_Mo) (T := fd_Mo) (N := 36) hx hb hts in_Mo ty_Mo tk_Mo nm_Mo hown hK hP hD hS 0 rfl rfl 7 (by decide) (hts _ wd_753) (fun _ h9 => h9) rfl (by decide +kernel) rfl rfl (Nat.le_of_ble_eq_true rfl) dc_Mo_readPacked_182 (fun H locs hP hD hS => ?_)
                                have hP : va_P D kc_l [mo_c o mth mty x0 mat mfr mto true (k + 1) x1 x2 x3 mhf mhp mcl mck mba mct x4 x5 x6 x7 x8 mst x9 x10 x11 x12 mtr mrs x13 x14 x15 x16 mwr x17 mfo, ar_n cI x0 250 t, ar_n cI x1 16 rz2, ar_i cI x2 128 rl2, ar_b cZ x3 16 (va_up rd1 k true)] H := hP
                                have hD : va_D A [mo_c o mth mty x0 mat mfr mto true (k + 1) x1 x2 x3 mhf mhp mcl mck mba mct x4 x5 x6 x7 x8 mst x9 x10 x11 x12 mtr mrs x13 x14 x15 x16 mwr x17 mfo, ar_n cI x0 250 t, ar_n cI x1 16 rz2, ar_i cI x2 128 rl2, ar_b cZ x3 16 (va_up rd1 k true)] := hD
                                refine lv_goto hx hb dc_Mo_readPacked_185 rfl ?_
                                exact ih_12 _ _ _ _ _ _ _ _ _ _ _ _ (by omega) hP hD hS hl (by rw [← h1, pck_go hk16 (by omega) hkd hdd rfl (by rw [hZ0]) (by omega), hZ0]) (by omega) (by omega) (hre) (rd_st hrd1)
                          · refine lv_aload_n hx hb dc_Mo_readPacked_105 rfl (lv_at hl 1 rfl) ?_
                            refine lv_aload_n hx hb dc_Mo_readPacked_106 rfl (lv_at hl 1 rfl) ?_
                            refine va_get (ci := 10) (v := .ref x0) (C := rn_Mo) (T := fd_Mo) (N := 36) hx hb hts in_Mo hown hK hP 0 rfl rfl 2 (by decide) (hts _ wd_748) (fun _ h9 => h9) rfl dc_Mo_readPacked_107 ?_
                            refine lv_iload_n hx hb dc_Mo_readPacked_110 rfl (lv_at hl 0 rfl) ?_
                            refine ka_nald (t := t) hx hb hK hP 1 0 rfl rfl (j := i1) (by omega) (by omega) dc_Mo_readPacked_111 ?_
                            refine lv_iconst (v := nI 2) hx hb dc_Mo_readPacked_112 (by decide +kernel) ?_
                            refine t_irem (v := nI ((t i1) % 2)) hx hb dc_Mo_readPacked_113 (by decide) (rem_2 _ (ht _)) ?_
                            refine kn_if_ne hx hb (by omega) dc_Mo_readPacked_114 rfl (fun hc114 => ?_) (fun hc114 => ?_)
                            · refine lv_aload_n hx hb dc_Mo_readPacked_128 rfl (lv_at hl 1 rfl) ?_
                              refine va_get (ci := 10) (v := .ref x0) (C := rn_Mo) (T := fd_Mo) (N := 36) hx hb hts in_Mo hown hK hP 0 rfl rfl 2 (by decide) (hts _ wd_748) (fun _ h9 => h9) rfl dc_Mo_readPacked_129 ?_
                              refine lv_iload_n hx hb dc_Mo_readPacked_132 rfl (lv_at hl 0 rfl) ?_
                              refine ka_nald (t := t) hx hb hK hP 1 0 rfl rfl (j := i1) (by omega) (by omega) dc_Mo_readPacked_133 ?_
                              refine lv_iconst (v := nI 2) hx hb dc_Mo_readPacked_134 (by decide +kernel) ?_
                              refine lv_idiv hx hb dc_Mo_readPacked_135 (by decide) ?_
                              refine kn_top (y := nI ((t i1) / 2)) (div_2 _ (ht _)) ?_
                              refine lv_ineg hx hb dc_Mo_readPacked_136 ?_
                              refine lv_bipush (v := nI 8) hx hb dc_Mo_readPacked_137 (by decide +kernel) ?_
                              have hk8 := hrow.1
                              have h256 := ht i1
                              rcases hlo : pt_lob (t i1) with _ | b
                              · have hFf : (pt_pck t mty 16 0 0 fz fs fl dd).1 = false := by rw [← h1]; exact pck_bad (by omega) (fun _ => by rw [← h3, rp_no hk8 (by omega) hc102 hlo])
                                refine kw_call0 (wr := [ar_n cI x0 250 t, ar_i cI x2 128 rl2, ar_b cZ x3 16 (va_up rd1 k true)]) (ws' := [mo_c o mth mty x0 mat mfr mto false k x1 x2 x3 mhf mhp mcl mck mba mct x4 x5 x6 x7 x8 mst x9 x10 x11 x12 mtr mrs x13 x14 x15 x16 mwr x17 mfo, ar_n cI x0 250 t, ar_n cI x1 16 rz2, ar_i cI x2 128 rl2, ar_b cZ x3 16 (va_up rd1 k true)]) (va_runV (As := [.int (-(nI ((t i1) / 2))), .int (nI 8)]) (rest := []) ⟨hx, hb, hml, hown, hts⟩ (ct_Mo_take_no l D cI cZ _ o mth mty x0 mat mfr mto true k x1 x2 x3 mhf mhp mcl mck mba mct x4 x5 x6 x7 x8 mst x9 x10 x11 x12 mtr mrs x13 x14 x15 x16 mwr x17 mfo rz2 (-(nI ((t i1) / 2))) 8 (rfl) (hk16) (by decide) (by have h9 := lob_none (t i1) h256 hlo; rw [if_neg hc114] at h9; exact h9) (by rw [hk1.1]; exact hk8)) (cwV 2 hts (kx_gV wd_899 wd_901 (kx_sel (q := (yn_Mo_take, 36)) (List.mem_append_right _ (List.mem_append_left _ (List.mem_of_getElem? (i := 2) rfl)))) wd_9 wd_902) rfl rfl rfl ⟨rfl, yd_Mo_take⟩ ⟨Nat.le_of_ble_eq_true rfl, Nat.le_of_ble_eq_true rfl⟩) (kp_V (q0 := 0) (ci := 10) hP hD hK hN [0, 2] rfl rfl rfl rfl rfl) rfl rfl hl.1 rfl (lv_room (Nat.le_of_ble_eq_true rfl)) dc_Mo_readPacked_139 ⟨Nat.le_of_ble_eq_true rfl, Nat.le_of_ble_eq_true rfl⟩) hP hD hS hA [0, 2] [1, 3, 4] [3, 0, 4, 1, 2] rfl rfl rfl (by decide) rfl rfl (fun H locs hP hD hS => ?_)
                                refine lv_iinc (k := 0) (v := nI (i1 + 1)) (lv' := [(1, .int (nI (i1 + 1))), (0, .ref o)]) hx hb dc_Mo_readPacked_142 hl rfl (nI_1 _) (by decide) rfl (fun ls hl => ?_)
                                refine lv_goto hx hb dc_Mo_readPacked_145 rfl ?_
                                exact jn_81 _ _ _ _ _ _ _ _ hP hD hS hl hFf
                              · obtain ⟨hb16, hbe⟩ := lob_some (t i1) h256 b hlo
                                rw [if_neg hc114] at hbe
                                refine kn_top2 (y := pt_lit b) hbe ?_
                                by_cases hfr : ¬ fs2 (k + 1) &&& (2 ^ (b % 8) ||| 2 ^ (b % 8 + 8)) = 0
                                · have hFf : (pt_pck t mty 16 0 0 fz fs fl dd).1 = false := by rw [← h1]; exact pck_bad (by omega) (fun _ => by rw [← h3, rp_dup hk8 (by omega) hc102 hlo hfr])
                                  refine kw_call0 (wr := [ar_n cI x0 250 t, ar_b cZ x3 16 (va_up rd1 k true)]) (ws' := [mo_c o mth mty x0 mat mfr mto false k x1 x2 x3 mhf mhp mcl mck mba mct x4 x5 x6 x7 x8 mst x9 x10 x11 x12 mtr mrs x13 x14 x15 x16 mwr x17 mfo, ar_n cI x0 250 t, ar_n cI x1 16 rz2, ar_i cI x2 128 rl2, ar_b cZ x3 16 (va_up rd1 k true)]) (va_runV (As := [.int (pt_lit b), .int (nI 8)]) (rest := []) ⟨hx, hb, hml, hown, hts⟩ (ct_Mo_take_dup l D cI cZ _ o mth mty x0 mat mfr mto true k x1 x2 x3 mhf mhp mcl mck mba mct x4 x5 x6 x7 x8 mst x9 x10 x11 x12 mtr mrs x13 x14 x15 x16 mwr x17 mfo rz2 rl2 b 8 bb pm (fs2 (k + 1)) (rfl) (hk16) (hb16) (by decide) (by omega) (by rw [hk1.1]; exact hk8) (by rw [hk1.1]; exact hrow) (hfr)) (cwV 2 hts (kx_gV wd_899 wd_901 (kx_sel (q := (yn_Mo_take, 36)) (List.mem_append_right _ (List.mem_append_left _ (List.mem_of_getElem? (i := 2) rfl)))) wd_9 wd_902) rfl rfl rfl ⟨rfl, yd_Mo_take⟩ ⟨Nat.le_of_ble_eq_true rfl, Nat.le_of_ble_eq_true rfl⟩) (kp_V (q0 := 0) (ci := 10) hP hD hK hN [0, 2, 3] rfl rfl rfl rfl rfl) rfl rfl hl.1 rfl (lv_room (Nat.le_of_ble_eq_true rfl)) dc_Mo_readPacked_139 ⟨Nat.le_of_ble_eq_true rfl, Nat.le_of_ble_eq_true rfl⟩) hP hD hS hA [0, 2, 3] [1, 4] [2, 0, 3, 4, 1] rfl rfl rfl (by decide) rfl rfl (fun H locs hP hD hS => ?_)
                                  refine lv_iinc (k := 0) (v := nI (i1 + 1)) (lv' := [(1, .int (nI (i1 + 1))), (0, .ref o)]) hx hb dc_Mo_readPacked_142 hl rfl (nI_1 _) (by decide) rfl (fun ls hl => ?_)
                                  refine lv_goto hx hb dc_Mo_readPacked_145 rfl ?_
                                  exact jn_81 _ _ _ _ _ _ _ _ hP hD hS hl hFf
                                · have hfr := Classical.not_not.mp hfr
                                  have hw8 : j < 8 := (rm_step (w := j) (x := fs2 (k + 1)) (row_rm hrow hs16) hb16 hfr).1
                                  have hrow2 := row_app hrow hb16 hfr hw8 hs16
                                  have hgo : pt_rp t mty (k + 1) 9 (i + 1) (va_up fz1 (k + 1) 0) (va_up fs1 (k + 1) 0) fl1 = pt_rp t mty (k + 1) (9 - (j + 1)) (i1 + 1) (va_up fz2 (k + 1) (j + 1)) (va_up fs2 (k + 1) (fs2 (k + 1) ||| 2 ^ b)) (upd fl2 ((k + 1) * 8 + j) (pt_lit b)) := by rw [← h3, rp_go hk8 (by omega) hc102 hlo hfr, hk1.2]
                                  refine kw_call0 (wr := [ar_n cI x0 250 t, ar_b cZ x3 16 (va_up rd1 k true)]) (ws' := [mo_c o mth mty x0 mat mfr mto true k x1 x2 x3 mhf mhp mcl mck mba mct x4 x5 x6 x7 x8 mst x9 x10 x11 x12 mtr mrs x13 x14 x15 x16 mwr x17 mfo, ar_n cI x0 250 t, ar_n cI x1 16 (va_up rz2 k (rz2 k + 1)), ar_i cI x2 128 (upd rl2 (8 * k + rz2 k) (pt_lit b)), ar_b cZ x3 16 (va_up rd1 k true)]) (va_runV (As := [.int (pt_lit b), .int (nI 8)]) (rest := []) ⟨hx, hb, hml, hown, hts⟩ (ct_Mo_take l D cI cZ _ o mth mty x0 mat mfr mto true k x1 x2 x3 mhf mhp mcl mck mba mct x4 x5 x6 x7 x8 mst x9 x10 x11 x12 mtr mrs x13 x14 x15 x16 mwr x17 mfo rz2 rl2 b 8 bb pm (fs2 (k + 1)) (rfl) (hk16) (hb16) (by decide) (by omega) (by rw [hk1.1]; exact hw8) (by rw [hk1.1]; exact hrow) (hfr)) (cwV 2 hts (kx_gV wd_899 wd_901 (kx_sel (q := (yn_Mo_take, 36)) (List.mem_append_right _ (List.mem_append_left _ (List.mem_of_getElem? (i := 2) rfl)))) wd_9 wd_902) rfl rfl rfl ⟨rfl, yd_Mo_take⟩ ⟨Nat.le_of_ble_eq_true rfl, Nat.le_of_ble_eq_true rfl⟩) (kp_V (q0 := 0) (ci := 10) hP hD hK hN [0, 2, 3] rfl rfl rfl rfl rfl) rfl rfl hl.1 rfl (lv_room (Nat.le_of_ble_eq_true rfl)) dc_Mo_readPacked_139 ⟨Nat.le_of_ble_eq_true rfl, Nat.le_of_ble_eq_true rfl⟩) hP hD hS hA [0, 2, 3] [1, 4] [2, 0, 3, 4, 1] rfl rfl rfl (by decide) rfl rfl (fun H locs hP hD hS => ?_)
                                  have e2 : va_up rz2 k (rz2 k + 1) = va_up rz2 k (j + 1) := by rw [hk1.1]
                                  have e3 : upd rl2 (8 * k + rz2 k) (pt_lit b) = upd rl2 (8 * k + j) (pt_lit b) := by rw [hk1.1]
                                  rw [e2, e3] at hP hD
                                  refine lv_iinc (k := 0) (v := nI (i1 + 1)) (lv' := [(1, .int (nI (i1 + 1))), (0, .ref o)]) hx hb dc_Mo_readPacked_142 hl rfl (nI_1 _) (by decide) rfl (fun ls hl => ?_)
                                  refine lv_goto hx hb dc_Mo_readPacked_145 rfl ?_
                                  exact ih_81 _ _ _ _ _ _ _ _ _ _ _ _ (by omega) hP hD hS hl (hgo.symm) (⟨by omega, by omega⟩) (by rw [va_up_self]; exact hrow2) (⟨va_up_self _ _ _, va_up_self _ _ _⟩) (by rw [va_up_self]; exact Nat.or_lt_two_pow (n := 16) hs16 (Nat.pow_lt_pow_right (by decide) hb16)) (rel_st hr2 (by omega) (by omega)) (cur_st hcu)
                            · refine lv_aload_n hx hb dc_Mo_readPacked_117 rfl (lv_at hl 1 rfl) ?_
                              refine va_get (ci := 10) (v := .ref x0) (C := rn_Mo) (T := fd_Mo) (N := 36) hx hb hts in_Mo hown hK hP 0 rfl rfl 2 (by decide) (hts _ wd_748) (fun _ h9 => h9) rfl dc_Mo_readPacked_118 ?_
                              refine lv_iload_n hx hb dc_Mo_readPacked_121 rfl (lv_at hl 0 rfl) ?_
                              refine ka_nald (t := t) hx hb hK hP 1 0 rfl rfl (j := i1) (by omega) (by omega) dc_Mo_readPacked_122 ?_
                              refine lv_iconst (v := nI 2) hx hb dc_Mo_readPacked_123 (by decide +kernel) ?_
                              refine lv_idiv hx hb dc_Mo_readPacked_124 (by decide) ?_
                              refine kn_top (y := nI ((t i1) / 2)) (div_2 _ (ht _)) ?_
                              refine lv_goto hx hb dc_Mo_readPacked_125 rfl ?_
                              refine lv_bipush (v := nI 8) hx hb dc_Mo_readPacked_137 (by decide +kernel) ?_
                              have hk8 := hrow.1
                              have h256 := ht i1
                              rcases hlo : pt_lob (t i1) with _ | b
                              · have hFf : (pt_pck t mty 16 0 0 fz fs fl dd).1 = false := by rw [← h1]; exact pck_bad (by omega) (fun _ => by rw [← h3, rp_no hk8 (by omega) hc102 hlo])
                                refine kw_call0 (wr := [ar_n cI x0 250 t, ar_i cI x2 128 rl2, ar_b cZ x3 16 (va_up rd1 k true)]) (ws' := [mo_c o mth mty x0 mat mfr mto false k x1 x2 x3 mhf mhp mcl mck mba mct x4 x5 x6 x7 x8 mst x9 x10 x11 x12 mtr mrs x13 x14 x15 x16 mwr x17 mfo, ar_n cI x0 250 t, ar_n cI x1 16 rz2, ar_i cI x2 128 rl2, ar_b cZ x3 16 (va_up rd1 k true)]) (va_runV (As := [.int (nI ((t i1) / 2)), .int (nI 8)]) (rest := []) ⟨hx, hb, hml, hown, hts⟩ (ct_Mo_take_no l D cI cZ _ o mth mty x0 mat mfr mto true k x1 x2 x3 mhf mhp mcl mck mba mct x4 x5 x6 x7 x8 mst x9 x10 x11 x12 mtr mrs x13 x14 x15 x16 mwr x17 mfo rz2 (nI ((t i1) / 2)) 8 (rfl) (hk16) (by decide) (by have h9 := lob_none (t i1) h256 hlo; rw [if_pos hc114] at h9; exact h9) (by rw [hk1.1]; exact hk8)) (cwV 2 hts (kx_gV wd_899 wd_901 (kx_sel (q := (yn_Mo_take, 36)) (List.mem_append_right _ (List.mem_append_left _ (List.mem_of_getElem? (i := 2) rfl)))) wd_9 wd_902) rfl rfl rfl ⟨rfl, yd_Mo_take⟩ ⟨Nat.le_of_ble_eq_true rfl, Nat.le_of_ble_eq_true rfl⟩) (kp_V (q0 := 0) (ci := 10) hP hD hK hN [0, 2] rfl rfl rfl rfl rfl) rfl rfl hl.1 rfl (lv_room (Nat.le_of_ble_eq_true rfl)) dc_Mo_readPacked_139 ⟨Nat.le_of_ble_eq_true rfl, Nat.le_of_ble_eq_true rfl⟩) hP hD hS hA [0, 2] [1, 3, 4] [3, 0, 4, 1, 2] rfl rfl rfl (by decide) rfl rfl (fun H locs hP hD hS => ?_)
                                refine lv_iinc (k := 0) (v := nI (i1 + 1)) (lv' := [(1, .int (nI (i1 + 1))), (0, .ref o)]) hx hb dc_Mo_readPacked_142 hl rfl (nI_1 _) (by decide) rfl (fun ls hl => ?_)
                                refine lv_goto hx hb dc_Mo_readPacked_145 rfl ?_
                                exact jn_81 _ _ _ _ _ _ _ _ hP hD hS hl hFf
                              · obtain ⟨hb16, hbe⟩ := lob_some (t i1) h256 b hlo
                                rw [if_pos hc114] at hbe
                                refine kn_top2 (y := pt_lit b) hbe ?_
                                by_cases hfr : ¬ fs2 (k + 1) &&& (2 ^ (b % 8) ||| 2 ^ (b % 8 + 8)) = 0
                                · have hFf : (pt_pck t mty 16 0 0 fz fs fl dd).1 = false := by rw [← h1]; exact pck_bad (by omega) (fun _ => by rw [← h3, rp_dup hk8 (by omega) hc102 hlo hfr])
                                  refine kw_call0 (wr := [ar_n cI x0 250 t, ar_b cZ x3 16 (va_up rd1 k true)]) (ws' := [mo_c o mth mty x0 mat mfr mto false k x1 x2 x3 mhf mhp mcl mck mba mct x4 x5 x6 x7 x8 mst x9 x10 x11 x12 mtr mrs x13 x14 x15 x16 mwr x17 mfo, ar_n cI x0 250 t, ar_n cI x1 16 rz2, ar_i cI x2 128 rl2, ar_b cZ x3 16 (va_up rd1 k true)]) (va_runV (As := [.int (pt_lit b), .int (nI 8)]) (rest := []) ⟨hx, hb, hml, hown, hts⟩ (ct_Mo_take_dup l D cI cZ _ o mth mty x0 mat mfr mto true k x1 x2 x3 mhf mhp mcl mck mba mct x4 x5 x6 x7 x8 mst x9 x10 x11 x12 mtr mrs x13 x14 x15 x16 mwr x17 mfo rz2 rl2 b 8 bb pm (fs2 (k + 1)) (rfl) (hk16) (hb16) (by decide) (by omega) (by rw [hk1.1]; exact hk8) (by rw [hk1.1]; exact hrow) (hfr)) (cwV 2 hts (kx_gV wd_899 wd_901 (kx_sel (q := (yn_Mo_take, 36)) (List.mem_append_right _ (List.mem_append_left _ (List.mem_of_getElem? (i := 2) rfl)))) wd_9 wd_902) rfl rfl rfl ⟨rfl, yd_Mo_take⟩ ⟨Nat.le_of_ble_eq_true rfl, Nat.le_of_ble_eq_true rfl⟩) (kp_V (q0 := 0) (ci := 10) hP hD hK hN [0, 2, 3] rfl rfl rfl rfl rfl) rfl rfl hl.1 rfl (lv_room (Nat.le_of_ble_eq_true rfl)) dc_Mo_readPacked_139 ⟨Nat.le_of_ble_eq_true rfl, Nat.le_of_ble_eq_true rfl⟩) hP hD hS hA [0, 2, 3] [1, 4] [2, 0, 3, 4, 1] rfl rfl rfl (by decide) rfl rfl (fun H locs hP hD hS => ?_)
                                  refine lv_iinc (k := 0) (v := nI (i1 + 1)) (lv' := [(1, .int (nI (i1 + 1))), (0, .ref o)]) hx hb dc_Mo_readPacked_142 hl rfl (nI_1 _) (by decide) rfl (fun ls hl => ?_)
                                  refine lv_goto hx hb dc_Mo_readPacked_145 rfl ?_
                                  exact jn_81 _ _ _ _ _ _ _ _ hP hD hS hl hFf
                                · have hfr := Classical.not_not.mp hfr
                                  have hw8 : j < 8 := (rm_step (w := j) (x := fs2 (k + 1)) (row_rm hrow hs16) hb16 hfr).1
                                  have hrow2 := row_app hrow hb16 hfr hw8 hs16
                                  have hgo : pt_rp t mty (k + 1) 9 (i + 1) (va_up fz1 (k + 1) 0) (va_up fs1 (k + 1) 0) fl1 = pt_rp t mty (k + 1) (9 - (j + 1)) (i1 + 1) (va_up fz2 (k + 1) (j + 1)) (va_up fs2 (k + 1) (fs2 (k + 1) ||| 2 ^ b)) (upd fl2 ((k + 1) * 8 + j) (pt_lit b)) := by rw [← h3, rp_go hk8 (by omega) hc102 hlo hfr, hk1.2]
                                  refine kw_call0 (wr := [ar_n cI x0 250 t, ar_b cZ x3 16 (va_up rd1 k true)]) (ws' := [mo_c o mth mty x0 mat mfr mto true k x1 x2 x3 mhf mhp mcl mck mba mct x4 x5 x6 x7 x8 mst x9 x10 x11 x12 mtr mrs x13 x14 x15 x16 mwr x17 mfo, ar_n cI x0 250 t, ar_n cI x1 16 (va_up rz2 k (rz2 k + 1)), ar_i cI x2 128 (upd rl2 (8 * k + rz2 k) (pt_lit b)), ar_b cZ x3 16 (va_up rd1 k true)]) (va_runV (As := [.int (pt_lit b), .int (nI 8)]) (rest := []) ⟨hx, hb, hml, hown, hts⟩ (ct_Mo_take l D cI cZ _ o mth mty x0 mat mfr mto true k x1 x2 x3 mhf mhp mcl mck mba mct x4 x5 x6 x7 x8 mst x9 x10 x11 x12 mtr mrs x13 x14 x15 x16 mwr x17 mfo rz2 rl2 b 8 bb pm (fs2 (k + 1)) (rfl) (hk16) (hb16) (by decide) (by omega) (by rw [hk1.1]; exact hw8) (by rw [hk1.1]; exact hrow) (hfr)) (cwV 2 hts (kx_gV wd_899 wd_901 (kx_sel (q := (yn_Mo_take, 36)) (List.mem_append_right _ (List.mem_append_left _ (List.mem_of_getElem? (i := 2) rfl)))) wd_9 wd_902) rfl rfl rfl ⟨rfl, yd_Mo_take⟩ ⟨Nat.le_of_ble_eq_true rfl, Nat.le_of_ble_eq_true rfl⟩) (kp_V (q0 := 0) (ci := 10) hP hD hK hN [0, 2, 3] rfl rfl rfl rfl rfl) rfl rfl hl.1 rfl (lv_room (Nat.le_of_ble_eq_true rfl)) dc_Mo_readPacked_139 ⟨Nat.le_of_ble_eq_true rfl, Nat.le_of_ble_eq_true rfl⟩) hP hD hS hA [0, 2, 3] [1, 4] [2, 0, 3, 4, 1] rfl rfl rfl (by decide) rfl rfl (fun H locs hP hD hS => ?_)
                                  have e2 : va_up rz2 k (rz2 k + 1) = va_up rz2 k (j + 1) := by rw [hk1.1]
                                  have e3 : upd rl2 (8 * k + rz2 k) (pt_lit b) = upd rl2 (8 * k + j) (pt_lit b) := by rw [hk1.1]
                                  rw [e2, e3] at hP hD
                                  refine lv_iinc (k := 0) (v := nI (i1 + 1)) (lv' := [(1, .int (nI (i1 + 1))), (0, .ref o)]) hx hb dc_Mo_readPacked_142 hl rfl (nI_1 _) (by decide) rfl (fun ls hl => ?_)
                                  refine lv_goto hx hb dc_Mo_readPacked_145 rfl ?_
                                  exact ih_81 _ _ _ _ _ _ _ _ _ _ _ _ (by omega) hP hD hS hl (hgo.symm) (⟨by omega, by omega⟩) (by rw [va_up_self]; exact hrow2) (⟨va_up_self _ _ _, va_up_self _ _ _⟩) (by rw [va_up_self]; exact Nat.or_lt_two_pow (n := 16) hs16 (Nat.pow_lt_pow_right (by decide) hb16)) (rel_st hr2 (by omega) (by omega)) (cur_st hcu)
                  exact lp_81 _ 0 (i + 1) (va_up fz1 (k + 1) 0) (va_up fs1 (k + 1) 0) fl1 (va_up rz1 k 0) rl1 ((fun _ => 0)) ((fun _ => 0)) _ _ _ (Nat.lt_succ_self _) hP hD hS hl (rfl) (⟨by omega, by omega⟩) (by rw [va_up_self]; exact row_e) (⟨va_up_self _ _ _, va_up_self _ _ _⟩) (by rw [va_up_self]; decide) (rel_z hr1) (fun a ha => absurd ha (Nat.not_lt_zero a))
              · have hFf : (pt_pck t mty 16 0 0 fz fs fl dd).1 = false := by rw [← h1]; exact pck_full (by omega) (by omega)
                refine lv_aload_n hx hb dc_Mo_readPacked_58 rfl (lv_at hl 1 rfl) ?_
                refine lv_aload_n hx hb dc_Mo_readPacked_59 rfl (lv_at hl 1 rfl) ?_
                refine va_get (ci := 10) (v := .ref x0) (C := rn_Mo) (T := fd_Mo) (N := 36) hx hb hts in_Mo hown hK hP 0 rfl rfl 2 (by decide) (hts _ wd_748) (fun _ h9 => h9) rfl dc_Mo_readPacked_60 ?_
                refine lv_iload_n hx hb dc_Mo_readPacked_63 rfl (lv_at hl 0 rfl) ?_
                refine ka_nald (t := t) hx hb hK hP 1 0 rfl rfl (j := i) (by omega) (by omega) dc_Mo_readPacked_64 ?_
                refine lv_bipush (v := nI 100) hx hb dc_Mo_readPacked_65 (by decide +kernel) ?_
                refine kn_icmp_ne hx hb (Nat.lt_trans (ht i) (by decide)) (by omega) dc_Mo_readPacked_67 rfl (fun hc67 => ?_) (fun hc67 => ?_)
                · exfalso; omega
                · refine lv_iconst (v := nI 1) hx hb dc_Mo_readPacked_70 (by decide +kernel) ?_
                  refine kn_top (y := kb_i true) (by decide +kernel) ?_
                  refine lv_goto hx hb dc_Mo_readPacked_71 rfl ?_
                  refine kw_call0 (wr := [ar_n cI x0 250 t, ar_n cI x1 16 rz1, ar_i cI x2 128 rl1, ar_b cZ x3 16 rd1]) (ws' := [mo_c o mth mty x0 mat mfr mto false k x1 x2 x3 mhf mhp mcl mck mba mct x4 x5 x6 x7 x8 mst x9 x10 x11 x12 mtr mrs x13 x14 x15 x16 mwr x17 mfo, ar_n cI x0 250 t, ar_n cI x1 16 rz1, ar_i cI x2 128 rl1, ar_b cZ x3 16 rd1]) (va_runV (As := [.int (kb_i true)]) (rest := []) ⟨hx, hb, hml, hown, hts⟩ (ct_Mo_beginClause_full l D cI cZ _ o mth mty x0 mat mfr mto true k x1 x2 x3 mhf mhp mcl mck mba mct x4 x5 x6 x7 x8 mst x9 x10 x11 x12 mtr mrs x13 x14 x15 x16 mwr x17 mfo true (rfl) (by omega) (by omega)) (cwV 1 hts (kx_gV wd_895 wd_897 (kx_sel (q := (yn_Mo_beginClause, 36)) (List.mem_append_right _ (List.mem_append_left _ (List.mem_of_getElem? (i := 1) rfl)))) wd_9 wd_898) rfl rfl rfl ⟨rfl, yd_Mo_beginClause⟩ ⟨Nat.le_of_ble_eq_true rfl, Nat.le_of_ble_eq_true rfl⟩) (kp_V (q0 := 0) (ci := 10) hP hD hK hN [0] rfl rfl rfl rfl rfl) rfl rfl hl.1 rfl (lv_room (Nat.le_of_ble_eq_true rfl)) dc_Mo_readPacked_75 ⟨Nat.le_of_ble_eq_true rfl, Nat.le_of_ble_eq_true rfl⟩) hP hD hS hA [0] [1, 2, 3, 4] [4, 0, 1, 2, 3] rfl rfl rfl (by decide) rfl rfl (fun H locs hP hD hS => ?_)
                  refine lv_iinc (k := 0) (v := nI (i + 1)) (lv' := [(1, .int (nI (i + 1))), (0, .ref o)]) hx hb dc_Mo_readPacked_78 hl rfl (nI_1 _) (by decide) rfl (fun ls hl => ?_)
                  exact jn_81 _ _ _ _ _ _ _ _ hP hD hS hl hFf
  exact lp_12 _ 0 0 fz fs fl dd rz rl rd _ _ _ (Nat.lt_succ_self _) hP hD hS hl (rfl) (by omega) (Nat.zero_le _) (rel_0) (fun i hi => absurd hi (Nat.not_lt_zero i))
